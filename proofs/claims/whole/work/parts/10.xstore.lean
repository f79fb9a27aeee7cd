section ZQJ
/-! the class's loops over the frame, and what it stores -/
variable {cp d nl md ex sk so ek eo lf f arg : Int32} {P O V N M Z A F : Nat → Int32} {R : Nat → Int64} {n a b r s i : Nat}
variable {fr : Nat → Bool}
theorem zq_nm1 (h : b < 32) : ¬ nI b = -1 := fun e => by
  have g := nI_pos (n := b) (by omega)
  rw [e] at g
  exact g (by decide)
theorem zx_at {post : Int32 → Prop} {t : Int64} (hn : n ≤ 32) (hr : r < 32) (hA : ∀ j, j < n → A j = (zq_q n P (zq_cmp P O N d nl)) j) (hp : post (zq_o (zq_fd (zq_tg P (zq_q n P (zq_cmp P O N d nl)) r t) n))) : wpX_partitionRowAt post (cp, nI n, d, nl, md, ex, sk, so, ek, eo, lf, P, O, V, N, M, R, Z, A, F) (nI r) t := by
  unfold wpX_partitionRowAt
  dsimp only
  obtain ⟨m, hm⟩ := zq_lp (W := fun m i => (∀ j, j < i → zq_tg P (zq_q n P (zq_cmp P O N d nl)) r t j = false) → wX_partitionRowAt_3 post (nI r) t cp (nI n) d nl md ex sk so ek eo lf P O V N M R Z A F m (nI i)) n (fun m hj => br_t (nI_le (Nat.le_refl n) (by omega)) (zq_p hp (by rw [zq_fd_n n hj]; rfl))) (fun m i hi ih hj => by
    have hx : zq_tg P (zq_q n P (zq_cmp P O N d nl)) r t i = false → ∀ j, j < i + 1 → zq_tg P (zq_q n P (zq_cmp P O N d nl)) r t j = false := by
      intro h j hj'
      by_cases e : j = i
      · rw [e]; exact h
      · exact hj j (by omega)
    rw [wX_partitionRowAt_3]
    dsimp only
    rw [zq_cl hr, zq_cl (show i < 32 by omega), hA i hi]
    refine br_f (nI_ge hi (by omega)) ⟨zq_in (by omega), zq_in hr, br_c (fun h => ⟨zq_in (by omega), br_c (fun g => zq_p hp ?_) (fun g => nm_r (nI_1 i) (ih (hx ?_)))⟩) (fun h => nm_r (nI_1 i) (ih (hx ?_)))⟩
    · rw [zq_fd_s hj (show zq_tg P (zq_q n P (zq_cmp P O N d nl)) r t i = true by simp only [zq_tg, decide_eq_true h, decide_eq_true g, Bool.and_true]) n hi]
      rfl
    · simp only [zq_tg, decide_eq_false g, Bool.and_false]
    · simp only [zq_tg, decide_eq_false h, Bool.false_and])
  exact ⟨m, hm (fun j hj => absurd hj (Nat.not_lt_zero j))⟩
theorem zx_firstOfFrame {post : Int32 → Prop} (hn : n ≤ 32) (hA : ∀ j, j < n → A j = (zq_q n P (zq_cmp P O N d nl)) j) (hF : ∀ j, j < n → F j = zq_b (fr j)) (hp : post (zq_o (zq_ex fr (fun i b => decide ((zq_q n P (zq_cmp P O N d nl)) i < (zq_q n P (zq_cmp P O N d nl)) b)) n))) : wpX_firstOfFrame post (cp, nI n, d, nl, md, ex, sk, so, ek, eo, lf, P, O, V, N, M, R, Z, A, F) := by
  unfold wpX_firstOfFrame
  dsimp only
  refine zq_lp (W := fun m i => wX_firstOfFrame_4 post cp (nI n) d nl md ex sk so ek eo lf P O V N M R Z A F m (zq_o (zq_ex fr (fun i b => decide ((zq_q n P (zq_cmp P O N d nl)) i < (zq_q n P (zq_cmp P O N d nl)) b)) i)) (nI i)) n (fun m => ?_) (fun m i hi ih => ?_)
  · exact br_t (nI_le (Nat.le_refl n) (by omega)) hp
  · have hi' : i < 32 := by omega
    rw [wX_firstOfFrame_4]
    dsimp only
    rw [zq_cl hi', hF i hi, hA i hi]
    refine br_f (nI_ge hi (by omega)) ⟨zq_in hi', zq_br (fun g => nm_r (nI_1 i) ?_) (fun g => ?_)⟩
    · rw [zq_ex_0 g] at ih; exact ih
    · cases q : zq_ex fr (fun i b => decide ((zq_q n P (zq_cmp P O N d nl)) i < (zq_q n P (zq_cmp P O N d nl)) b)) i with
      | none =>
        rw [zq_ex_1 g q] at ih
        exact br_t rfl (nm_r (nI_1 i) ih)
      | some b =>
        have hb := (zq_ex_lt i b q).1
        have hb' : b < 32 := by omega
        rw [show zq_o (some b) = nI b from rfl, zq_cl hb', hA b (by omega)]
        refine br_f (zq_nm1 hb') ⟨zq_in hi', zq_in hb', br_c (fun l => nm_r (nI_1 i) ?_) (fun l => nm_r (nI_1 i) ?_)⟩
        · rw [zq_ex_3 g q (decide_eq_false (Int32.not_lt.mpr l))] at ih; exact ih
        · rw [zq_ex_2 g q (decide_eq_true (Int32.not_le.mp l))] at ih; exact ih
theorem zx_lastOfFrame {post : Int32 → Prop} (hn : n ≤ 32) (hA : ∀ j, j < n → A j = (zq_q n P (zq_cmp P O N d nl)) j) (hF : ∀ j, j < n → F j = zq_b (fr j)) (hp : post (zq_o (zq_ex fr (fun i b => decide ((zq_q n P (zq_cmp P O N d nl)) b < (zq_q n P (zq_cmp P O N d nl)) i)) n))) : wpX_lastOfFrame post (cp, nI n, d, nl, md, ex, sk, so, ek, eo, lf, P, O, V, N, M, R, Z, A, F) := by
  unfold wpX_lastOfFrame
  dsimp only
  refine zq_lp (W := fun m i => wX_lastOfFrame_4 post cp (nI n) d nl md ex sk so ek eo lf P O V N M R Z A F m (zq_o (zq_ex fr (fun i b => decide ((zq_q n P (zq_cmp P O N d nl)) b < (zq_q n P (zq_cmp P O N d nl)) i)) i)) (nI i)) n (fun m => ?_) (fun m i hi ih => ?_)
  · exact br_t (nI_le (Nat.le_refl n) (by omega)) hp
  · have hi' : i < 32 := by omega
    rw [wX_lastOfFrame_4]
    dsimp only
    rw [zq_cl hi', hF i hi, hA i hi]
    refine br_f (nI_ge hi (by omega)) ⟨zq_in hi', zq_br (fun g => nm_r (nI_1 i) ?_) (fun g => ?_)⟩
    · rw [zq_ex_0 g] at ih; exact ih
    · cases q : zq_ex fr (fun i b => decide ((zq_q n P (zq_cmp P O N d nl)) b < (zq_q n P (zq_cmp P O N d nl)) i)) i with
      | none =>
        rw [zq_ex_1 g q] at ih
        exact br_t rfl (nm_r (nI_1 i) ih)
      | some b =>
        have hb := (zq_ex_lt i b q).1
        have hb' : b < 32 := by omega
        rw [show zq_o (some b) = nI b from rfl, zq_cl hb', hA b (by omega)]
        refine br_f (zq_nm1 hb') ⟨zq_in hi', zq_in hb', br_c (fun l => nm_r (nI_1 i) ?_) (fun l => nm_r (nI_1 i) ?_)⟩
        · rw [zq_ex_3 g q (decide_eq_false (Int32.not_lt.mpr l))] at ih; exact ih
        · rw [zq_ex_2 g q (decide_eq_true (Int32.not_le.mp l))] at ih; exact ih
theorem zx_leastOfFrame {post : Int32 → Prop} (hn : n ≤ 32) (hF : ∀ j, j < n → F j = zq_b (fr j)) (hp : post (zq_o (zq_ex (zq_nv fr M) (fun i b => decide (V i < V b)) n))) : wpX_leastOfFrame post (cp, nI n, d, nl, md, ex, sk, so, ek, eo, lf, P, O, V, N, M, R, Z, A, F) := by
  unfold wpX_leastOfFrame
  dsimp only
  refine zq_lp (W := fun m i => wX_leastOfFrame_4 post cp (nI n) d nl md ex sk so ek eo lf P O V N M R Z A F m (zq_o (zq_ex (zq_nv fr M) (fun i b => decide (V i < V b)) i)) (nI i)) n (fun m => ?_) (fun m i hi ih => ?_)
  · exact br_t (nI_le (Nat.le_refl n) (by omega)) hp
  · have hi' : i < 32 := by omega
    rw [wX_leastOfFrame_4]
    dsimp only
    rw [zq_cl hi', hF i hi]
    refine br_f (nI_ge hi (by omega)) ⟨zq_in hi', zq_br (fun g => nm_r (nI_1 i) ?_) (fun g => ⟨zq_in hi', br_c (fun m0 => ?_) (fun m0 => nm_r (nI_1 i) ?_)⟩)⟩
    · rw [zq_ex_0 (show zq_nv fr M i = false by simp only [zq_nv, g, Bool.false_and])] at ih; exact ih
    · have hv : zq_nv fr M i = true := by simp only [zq_nv, g, decide_eq_true m0, Bool.and_true]
      cases q : zq_ex (zq_nv fr M) (fun i b => decide (V i < V b)) i with
      | none =>
        rw [zq_ex_1 hv q] at ih
        exact br_t rfl (nm_r (nI_1 i) ih)
      | some b =>
        have hb := (zq_ex_lt i b q).1
        have hb' : b < 32 := by omega
        rw [show zq_o (some b) = nI b from rfl, zq_cl hb']
        refine br_f (zq_nm1 hb') ⟨zq_in hi', zq_in hb', br_c (fun l => nm_r (nI_1 i) ?_) (fun l => nm_r (nI_1 i) ?_)⟩
        · rw [zq_ex_3 hv q (decide_eq_false (Int32.not_lt.mpr l))] at ih; exact ih
        · rw [zq_ex_2 hv q (decide_eq_true (Int32.not_le.mp l))] at ih; exact ih
    · rw [zq_ex_0 (show zq_nv fr M i = false by simp only [zq_nv, decide_eq_false m0, Bool.and_false])] at ih; exact ih
theorem zx_greatestOfFrame {post : Int32 → Prop} (hn : n ≤ 32) (hF : ∀ j, j < n → F j = zq_b (fr j)) (hp : post (zq_o (zq_ex (zq_nv fr M) (fun i b => decide (V b < V i)) n))) : wpX_greatestOfFrame post (cp, nI n, d, nl, md, ex, sk, so, ek, eo, lf, P, O, V, N, M, R, Z, A, F) := by
  unfold wpX_greatestOfFrame
  dsimp only
  refine zq_lp (W := fun m i => wX_greatestOfFrame_4 post cp (nI n) d nl md ex sk so ek eo lf P O V N M R Z A F m (zq_o (zq_ex (zq_nv fr M) (fun i b => decide (V b < V i)) i)) (nI i)) n (fun m => ?_) (fun m i hi ih => ?_)
  · exact br_t (nI_le (Nat.le_refl n) (by omega)) hp
  · have hi' : i < 32 := by omega
    rw [wX_greatestOfFrame_4]
    dsimp only
    rw [zq_cl hi', hF i hi]
    refine br_f (nI_ge hi (by omega)) ⟨zq_in hi', zq_br (fun g => nm_r (nI_1 i) ?_) (fun g => ⟨zq_in hi', br_c (fun m0 => ?_) (fun m0 => nm_r (nI_1 i) ?_)⟩)⟩
    · rw [zq_ex_0 (show zq_nv fr M i = false by simp only [zq_nv, g, Bool.false_and])] at ih; exact ih
    · have hv : zq_nv fr M i = true := by simp only [zq_nv, g, decide_eq_true m0, Bool.and_true]
      cases q : zq_ex (zq_nv fr M) (fun i b => decide (V b < V i)) i with
      | none =>
        rw [zq_ex_1 hv q] at ih
        exact br_t rfl (nm_r (nI_1 i) ih)
      | some b =>
        have hb := (zq_ex_lt i b q).1
        have hb' : b < 32 := by omega
        rw [show zq_o (some b) = nI b from rfl, zq_cl hb']
        refine br_f (zq_nm1 hb') ⟨zq_in hi', zq_in hb', br_c (fun l => nm_r (nI_1 i) ?_) (fun l => nm_r (nI_1 i) ?_)⟩
        · rw [zq_ex_3 hv q (decide_eq_false (Int32.not_lt.mpr l))] at ih; exact ih
        · rw [zq_ex_2 hv q (decide_eq_true (Int32.not_le.mp l))] at ih; exact ih
    · rw [zq_ex_0 (show zq_nv fr M i = false by simp only [zq_nv, decide_eq_false m0, Bool.and_false])] at ih; exact ih
theorem zx_frameValues {post : Int32 → Prop} (hn : n ≤ 32) (hF : ∀ j, j < n → F j = zq_b (fr j)) (hp : post (nI (zq_cn (zq_nv fr M) n))) : wpX_frameValues post (cp, nI n, d, nl, md, ex, sk, so, ek, eo, lf, P, O, V, N, M, R, Z, A, F) := by
  unfold wpX_frameValues
  dsimp only
  refine zq_lp (W := fun m i => wX_frameValues_4 post cp (nI n) d nl md ex sk so ek eo lf P O V N M R Z A F m (nI (zq_cn (zq_nv fr M) i)) (nI i)) n (fun m => ?_) (fun m i hi ih => ?_)
  · exact br_t (nI_le (Nat.le_refl n) (by omega)) hp
  · have hi' : i < 32 := by omega
    rw [wX_frameValues_4]
    dsimp only
    rw [zq_cl hi', hF i hi]
    refine br_f (nI_ge hi (by omega)) ⟨zq_in hi', zq_br (fun g => nm_r (nI_1 i) ?_) (fun g => ⟨zq_in hi', br_c (fun m0 => nm_r (nI_1 _) (nm_r (nI_1 i) ?_)) (fun m0 => nm_r (nI_1 i) ?_)⟩)⟩
    · rw [zq_cn_f (show zq_nv fr M i = false by simp only [zq_nv, g, Bool.false_and])] at ih; exact ih
    · rw [zq_cn_t (show zq_nv fr M i = true by simp only [zq_nv, g, decide_eq_true m0, Bool.and_true])] at ih; exact ih
    · rw [zq_cn_f (show zq_nv fr M i = false by simp only [zq_nv, decide_eq_false m0, Bool.and_false])] at ih; exact ih
theorem zx_frameSum {post : Int64 → Prop} (hn : n ≤ 32) (hF : ∀ j, j < n → F j = zq_b (fr j)) (hp : post (zq_sm (zq_nv fr M) V n)) : wpX_frameSum post (cp, nI n, d, nl, md, ex, sk, so, ek, eo, lf, P, O, V, N, M, R, Z, A, F) := by
  unfold wpX_frameSum
  dsimp only
  refine zq_lp (W := fun m i => wX_frameSum_4 post cp (nI n) d nl md ex sk so ek eo lf P O V N M R Z A F m (zq_sm (zq_nv fr M) V i) (nI i)) n (fun m => ?_) (fun m i hi ih => ?_)
  · exact br_t (nI_le (Nat.le_refl n) (by omega)) hp
  · have hi' : i < 32 := by omega
    rw [wX_frameSum_4]
    dsimp only
    rw [zq_cl hi', hF i hi]
    refine br_f (nI_ge hi (by omega)) ⟨zq_in hi', zq_br (fun g => nm_r (nI_1 i) ?_) (fun g => ⟨zq_in hi', br_c (fun m0 => ⟨zq_in hi', nm_e (nm_r (nI_1 i) ?_)⟩) (fun m0 => nm_r (nI_1 i) ?_)⟩)⟩
    · rw [zq_sm_f (show zq_nv fr M i = false by simp only [zq_nv, g, Bool.false_and])] at ih; exact ih
    · rw [zq_sm_t (show zq_nv fr M i = true by simp only [zq_nv, g, decide_eq_true m0, Bool.and_true])] at ih; exact ih
    · rw [zq_sm_f (show zq_nv fr M i = false by simp only [zq_nv, decide_eq_false m0, Bool.and_false])] at ih; exact ih
theorem zx_frameRows {post : Int32 → Prop} (hn : n ≤ 32) (hF : ∀ j, j < n → F j = zq_b (fr j)) (hp : post (nI (zq_cn fr n))) : wpX_frameRows post (cp, nI n, d, nl, md, ex, sk, so, ek, eo, lf, P, O, V, N, M, R, Z, A, F) := by
  unfold wpX_frameRows
  dsimp only
  refine zq_lp (W := fun m i => wX_frameRows_4 post cp (nI n) d nl md ex sk so ek eo lf P O V N M R Z A F m (nI (zq_cn fr i)) (nI i)) n (fun m => ?_) (fun m i hi ih => ?_)
  · exact br_t (nI_le (Nat.le_refl n) (by omega)) hp
  · have hi' : i < 32 := by omega
    rw [wX_frameRows_4]
    dsimp only
    rw [zq_cl hi', hF i hi]
    refine br_f (nI_ge hi (by omega)) ⟨zq_in hi', zq_br (fun g => nm_r (nI_1 i) ?_) (fun g => nm_r (nI_1 _) (nm_r (nI_1 i) ?_))⟩
    · rw [zq_cn_f g] at ih; exact ih
    · rw [zq_cn_t g] at ih; exact ih
theorem zx_null {post : SX → Prop} (hr : r < 32) (hp : post (cp, nI n, d, nl, md, ex, sk, so, ek, eo, lf, P, O, V, N, M, vp_updL R r 0, upd Z r 1, A, F)) : wpX_storeNull post (cp, nI n, d, nl, md, ex, sk, so, ek, eo, lf, P, O, V, N, M, R, Z, A, F) (nI r) := by
  unfold wpX_storeNull
  dsimp only
  rw [zq_cl hr, zq_nb1]
  exact ⟨zq_in hr, nm_e ⟨zq_in hr, nm_e hp⟩⟩
theorem zx_num {post : SX → Prop} {v : Int64} (hr : r < 32) (hp : post (cp, nI n, d, nl, md, ex, sk, so, ek, eo, lf, P, O, V, N, M, vp_updL R r v, upd Z r 0, A, F)) : wpX_storeNumber post (cp, nI n, d, nl, md, ex, sk, so, ek, eo, lf, P, O, V, N, M, R, Z, A, F) (nI r) v := by
  unfold wpX_storeNumber
  dsimp only
  rw [zq_cl hr, zq_nb0]
  exact ⟨zq_in hr, nm_e ⟨zq_in hr, nm_e hp⟩⟩
theorem zx_fin0 {post : SX → Prop} {x : Bool × Int64} {v : Int64} (e : x = (false, v)) (hp : post (cp, nI n, d, nl, md, ex, sk, so, ek, eo, lf, P, O, V, N, M, vp_updL R r (x).2, upd Z r (zq_b (x).1), A, F)) : post (cp, nI n, d, nl, md, ex, sk, so, ek, eo, lf, P, O, V, N, M, vp_updL R r v, upd Z r 0, A, F) := by
  rw [e] at hp
  exact hp
theorem zx_fin1 {post : SX → Prop} {x : Bool × Int64} (e : x = (true, 0)) (hp : post (cp, nI n, d, nl, md, ex, sk, so, ek, eo, lf, P, O, V, N, M, vp_updL R r (x).2, upd Z r (zq_b (x).1), A, F)) : post (cp, nI n, d, nl, md, ex, sk, so, ek, eo, lf, P, O, V, N, M, vp_updL R r 0, upd Z r 1, A, F) := by
  rw [e] at hp
  exact hp
theorem zx_val {post : SX → Prop} {o : Option Nat} (hr : r < 32) (ho : ∀ b, o = some b → b < 32) (hp : post (cp, nI n, d, nl, md, ex, sk, so, ek, eo, lf, P, O, V, N, M, vp_updL R r (zq_one V M o).2, upd Z r (zq_b (zq_one V M o).1), A, F)) : wpX_storeValueOf post (cp, nI n, d, nl, md, ex, sk, so, ek, eo, lf, P, O, V, N, M, R, Z, A, F) (nI r) (zq_o o) := by
  unfold wpX_storeValueOf wX_storeValueOf_14
  dsimp only
  cases o with
  | none => exact br_t rfl (zx_null hr (zx_fin1 zq_one_n hp))
  | some b =>
    have hb := ho b rfl
    rw [show zq_o (some b) = nI b from rfl, zq_cl hb]
    exact br_f (zq_nm1 hb) ⟨zq_in hb, br_c (fun g => ⟨zq_in hb, zx_num hr (zx_fin0 (zq_one_v g) hp)⟩) (fun g => zx_null hr (zx_fin1 (zq_one_w g) hp))⟩
theorem zx_av0 {post : Int32 → Prop} (hp : post 0) : wpX_answersValueOfOneRow post 0 := br_t (show (0 : Int32) < 3 by decide) hp
theorem zx_av1 {post : Int32 → Prop} (hp : post 0) : wpX_answersValueOfOneRow post 1 := br_t (show (1 : Int32) < 3 by decide) hp
theorem zx_av2 {post : Int32 → Prop} (hp : post 0) : wpX_answersValueOfOneRow post 2 := br_t (show (2 : Int32) < 3 by decide) hp
theorem zx_av3 {post : Int32 → Prop} (hp : post 1) : wpX_answersValueOfOneRow post 3 := br_f (show ¬ (3 : Int32) < 3 by decide) (br_f (show ¬ (11 : Int32) < 3 by decide) (br_t rfl hp))
theorem zx_av4 {post : Int32 → Prop} (hp : post 1) : wpX_answersValueOfOneRow post 4 := br_f (show ¬ (4 : Int32) < 3 by decide) (br_f (show ¬ (11 : Int32) < 4 by decide) (br_f (show ¬ (4 : Int32) = 3 by decide) (br_t rfl hp)))
theorem zx_av5 {post : Int32 → Prop} (hp : post 1) : wpX_answersValueOfOneRow post 5 := br_f (show ¬ (5 : Int32) < 3 by decide) (br_f (show ¬ (11 : Int32) < 5 by decide) (br_f (show ¬ (5 : Int32) = 3 by decide) (br_f (show ¬ (5 : Int32) = 4 by decide) (br_t rfl hp))))
theorem zx_av6 {post : Int32 → Prop} (hp : post 1) : wpX_answersValueOfOneRow post 6 := br_f (show ¬ (6 : Int32) < 3 by decide) (br_f (show ¬ (11 : Int32) < 6 by decide) (br_f (show ¬ (6 : Int32) = 3 by decide) (br_f (show ¬ (6 : Int32) = 4 by decide) (br_f (show ¬ (6 : Int32) = 5 by decide) (br_t rfl hp)))))
theorem zx_av7 {post : Int32 → Prop} (hp : post 0) : wpX_answersValueOfOneRow post 7 := br_f (show ¬ (7 : Int32) < 3 by decide) (br_f (show ¬ (11 : Int32) < 7 by decide) (br_f (show ¬ (7 : Int32) = 3 by decide) (br_f (show ¬ (7 : Int32) = 4 by decide) (br_f (show ¬ (7 : Int32) = 5 by decide) (br_f (show ¬ (7 : Int32) = 6 by decide) (br_t rfl hp))))))
theorem zx_av8 {post : Int32 → Prop} (hp : post 0) : wpX_answersValueOfOneRow post 8 := br_f (show ¬ (8 : Int32) < 3 by decide) (br_f (show ¬ (11 : Int32) < 8 by decide) (br_f (show ¬ (8 : Int32) = 3 by decide) (br_f (show ¬ (8 : Int32) = 4 by decide) (br_f (show ¬ (8 : Int32) = 5 by decide) (br_f (show ¬ (8 : Int32) = 6 by decide) (br_f (show ¬ (8 : Int32) = 7 by decide) (br_t rfl hp)))))))
theorem zx_av9 {post : Int32 → Prop} (hp : post 0) : wpX_answersValueOfOneRow post 9 := br_f (show ¬ (9 : Int32) < 3 by decide) (br_f (show ¬ (11 : Int32) < 9 by decide) (br_f (show ¬ (9 : Int32) = 3 by decide) (br_f (show ¬ (9 : Int32) = 4 by decide) (br_f (show ¬ (9 : Int32) = 5 by decide) (br_f (show ¬ (9 : Int32) = 6 by decide) (br_f (show ¬ (9 : Int32) = 7 by decide) (br_f (show ¬ (9 : Int32) = 8 by decide) (br_t rfl hp))))))))
theorem zx_av10 {post : Int32 → Prop} (hp : post 1) : wpX_answersValueOfOneRow post 10 := br_f (show ¬ (10 : Int32) < 3 by decide) (br_f (show ¬ (11 : Int32) < 10 by decide) (br_f (show ¬ (10 : Int32) = 3 by decide) (br_f (show ¬ (10 : Int32) = 4 by decide) (br_f (show ¬ (10 : Int32) = 5 by decide) (br_f (show ¬ (10 : Int32) = 6 by decide) (br_f (show ¬ (10 : Int32) = 7 by decide) (br_f (show ¬ (10 : Int32) = 8 by decide) (br_f (show ¬ (10 : Int32) = 9 by decide) (br_t rfl hp)))))))))
theorem zx_av11 {post : Int32 → Prop} (hp : post 1) : wpX_answersValueOfOneRow post 11 := br_f (show ¬ (11 : Int32) < 3 by decide) (br_f (show ¬ (11 : Int32) < 11 by decide) (br_f (show ¬ (11 : Int32) = 3 by decide) (br_f (show ¬ (11 : Int32) = 4 by decide) (br_f (show ¬ (11 : Int32) = 5 by decide) (br_f (show ¬ (11 : Int32) = 6 by decide) (br_f (show ¬ (11 : Int32) = 7 by decide) (br_f (show ¬ (11 : Int32) = 8 by decide) (br_f (show ¬ (11 : Int32) = 9 by decide) (br_f (show ¬ (11 : Int32) = 10 by decide) (br_t rfl hp))))))))))
theorem zx_src3 {post : Int32 → Prop} (hn : n ≤ 32) (hrn : r < n) (hA : ∀ j, j < n → A j = (zq_q n P (zq_cmp P O N d nl)) j) (hp : post (zq_o (zq_fd (zq_tg P (zq_q n P (zq_cmp P O N d nl)) r (((zq_q n P (zq_cmp P O N d nl)) r).toInt64 - arg.toInt64)) n))) : wpX_sourceRow post (cp, nI n, d, nl, md, ex, sk, so, ek, eo, lf, P, O, V, N, M, R, Z, A, F) (nI r) 3 arg := by
  have hr : r < 32 := by omega
  unfold wpX_sourceRow wX_sourceRow_95
  dsimp only
  rw [zq_cl hr, hA r hrn]
  exact br_f (show ¬ (3 : Int32) < 3 by decide) (br_f (show ¬ (10 : Int32) < 3 by decide) (br_t rfl (⟨zq_in hr, zx_at hn hr hA hp⟩)))
theorem zx_src4 {post : Int32 → Prop} (hn : n ≤ 32) (hrn : r < n) (hA : ∀ j, j < n → A j = (zq_q n P (zq_cmp P O N d nl)) j) (hp : post (zq_o (zq_fd (zq_tg P (zq_q n P (zq_cmp P O N d nl)) r (((zq_q n P (zq_cmp P O N d nl)) r).toInt64 + arg.toInt64)) n))) : wpX_sourceRow post (cp, nI n, d, nl, md, ex, sk, so, ek, eo, lf, P, O, V, N, M, R, Z, A, F) (nI r) 4 arg := by
  have hr : r < 32 := by omega
  unfold wpX_sourceRow wX_sourceRow_95
  dsimp only
  rw [zq_cl hr, hA r hrn]
  exact br_f (show ¬ (4 : Int32) < 3 by decide) (br_f (show ¬ (10 : Int32) < 4 by decide) (br_f (show ¬ (4 : Int32) = 3 by decide) (br_t rfl (⟨zq_in hr, zx_at hn hr hA hp⟩))))
theorem zx_src5 {post : Int32 → Prop} (hn : n ≤ 32) (hrn : r < n) (hA : ∀ j, j < n → A j = (zq_q n P (zq_cmp P O N d nl)) j) (hF : ∀ j, j < n → F j = zq_b (fr j)) (hp : post (zq_o (zq_ex fr (fun i b => decide ((zq_q n P (zq_cmp P O N d nl)) i < (zq_q n P (zq_cmp P O N d nl)) b)) n))) : wpX_sourceRow post (cp, nI n, d, nl, md, ex, sk, so, ek, eo, lf, P, O, V, N, M, R, Z, A, F) (nI r) 5 arg := by
  have hr : r < 32 := by omega
  unfold wpX_sourceRow wX_sourceRow_95
  dsimp only
  exact br_f (show ¬ (5 : Int32) < 3 by decide) (br_f (show ¬ (10 : Int32) < 5 by decide) (br_f (show ¬ (5 : Int32) = 3 by decide) (br_f (show ¬ (5 : Int32) = 4 by decide) (br_t rfl (zx_firstOfFrame hn hA hF hp)))))
theorem zx_src6 {post : Int32 → Prop} (hn : n ≤ 32) (hrn : r < n) (hA : ∀ j, j < n → A j = (zq_q n P (zq_cmp P O N d nl)) j) (hF : ∀ j, j < n → F j = zq_b (fr j)) (hp : post (zq_o (zq_ex fr (fun i b => decide ((zq_q n P (zq_cmp P O N d nl)) b < (zq_q n P (zq_cmp P O N d nl)) i)) n))) : wpX_sourceRow post (cp, nI n, d, nl, md, ex, sk, so, ek, eo, lf, P, O, V, N, M, R, Z, A, F) (nI r) 6 arg := by
  have hr : r < 32 := by omega
  unfold wpX_sourceRow wX_sourceRow_95
  dsimp only
  exact br_f (show ¬ (6 : Int32) < 3 by decide) (br_f (show ¬ (10 : Int32) < 6 by decide) (br_f (show ¬ (6 : Int32) = 3 by decide) (br_f (show ¬ (6 : Int32) = 4 by decide) (br_f (show ¬ (6 : Int32) = 5 by decide) (br_t rfl (zx_lastOfFrame hn hA hF hp))))))
theorem zx_src10 {post : Int32 → Prop} (hn : n ≤ 32) (hrn : r < n) (hF : ∀ j, j < n → F j = zq_b (fr j)) (hp : post (zq_o (zq_ex (zq_nv fr M) (fun i b => decide (V i < V b)) n))) : wpX_sourceRow post (cp, nI n, d, nl, md, ex, sk, so, ek, eo, lf, P, O, V, N, M, R, Z, A, F) (nI r) 10 arg := by
  have hr : r < 32 := by omega
  unfold wpX_sourceRow wX_sourceRow_95
  dsimp only
  exact br_f (show ¬ (10 : Int32) < 3 by decide) (br_f (show ¬ (10 : Int32) < 10 by decide) (br_f (show ¬ (10 : Int32) = 3 by decide) (br_f (show ¬ (10 : Int32) = 4 by decide) (br_f (show ¬ (10 : Int32) = 5 by decide) (br_f (show ¬ (10 : Int32) = 6 by decide) (br_f (show ¬ (10 : Int32) = 7 by decide) (br_f (show ¬ (10 : Int32) = 8 by decide) (br_f (show ¬ (10 : Int32) = 9 by decide) (br_t rfl (zx_leastOfFrame hn hF hp))))))))))
theorem zx_src11 {post : Int32 → Prop} (hn : n ≤ 32) (hrn : r < n) (hF : ∀ j, j < n → F j = zq_b (fr j)) (hp : post (zq_o (zq_ex (zq_nv fr M) (fun i b => decide (V b < V i)) n))) : wpX_sourceRow post (cp, nI n, d, nl, md, ex, sk, so, ek, eo, lf, P, O, V, N, M, R, Z, A, F) (nI r) 11 arg := by
  have hr : r < 32 := by omega
  unfold wpX_sourceRow wX_sourceRow_95
  dsimp only
  exact br_f (show ¬ (11 : Int32) < 3 by decide) (br_t (show (10 : Int32) < 11 by decide) (zx_greatestOfFrame hn hF hp))
theorem zx_nf0 {post : Int64 → Prop} (hn : n ≤ 32) (hrn : r < n) (hA : ∀ j, j < n → A j = (zq_q n P (zq_cmp P O N d nl)) j) (hp : post (((zq_q n P (zq_cmp P O N d nl)) r).toInt64 + 1)) : wpX_numberFor post (cp, nI n, d, nl, md, ex, sk, so, ek, eo, lf, P, O, V, N, M, R, Z, A, F) (nI r) 0 := by
  have hr : r < 32 := by omega
  unfold wpX_numberFor wX_numberFor_87
  dsimp only
  rw [zq_cl hr, hA r hrn]
  exact br_f (show ¬ (0 : Int32) < 0 by decide) (br_f (show ¬ (8 : Int32) < 0 by decide) (br_t rfl (⟨zq_in hr, hp⟩)))
theorem zx_nf1 {post : Int64 → Prop} (hn : n ≤ 32) (hrn : r < n) (hN : ∀ i, N i = 0 ∨ N i = 1) (hp : post (lN (zq_cn (zq_rk P (zq_cmp P O N d nl) r) n + 1))) : wpX_numberFor post (cp, nI n, d, nl, md, ex, sk, so, ek, eo, lf, P, O, V, N, M, R, Z, A, F) (nI r) 1 := by
  have hr : r < 32 := by omega
  unfold wpX_numberFor wX_numberFor_87
  dsimp only
  exact br_f (show ¬ (1 : Int32) < 0 by decide) (br_f (show ¬ (8 : Int32) < 1 by decide) (br_f (show ¬ (1 : Int32) = 0 by decide) (br_t rfl (zx_rank hN hn hr (zq_p hp (nI_l (by have := zq_cn_le (zq_rk P (zq_cmp P O N d nl) r) n; omega)))))))
theorem zx_nf2 {post : Int64 → Prop} (hn : n ≤ 32) (hrn : r < n) (hN : ∀ i, N i = 0 ∨ N i = 1) (hp : post (lN (zq_cn (zq_dr P (zq_cmp P O N d nl) r) n + 1))) : wpX_numberFor post (cp, nI n, d, nl, md, ex, sk, so, ek, eo, lf, P, O, V, N, M, R, Z, A, F) (nI r) 2 := by
  have hr : r < 32 := by omega
  unfold wpX_numberFor wX_numberFor_87
  dsimp only
  exact br_f (show ¬ (2 : Int32) < 0 by decide) (br_f (show ¬ (8 : Int32) < 2 by decide) (br_f (show ¬ (2 : Int32) = 0 by decide) (br_f (show ¬ (2 : Int32) = 1 by decide) (br_t rfl (zx_denseRank hN hn hr (zq_p hp (nI_l (by have := zq_cn_le (zq_dr P (zq_cmp P O N d nl) r) n; omega))))))))
theorem zx_nf7 {post : Int64 → Prop} (hn : n ≤ 32) (hrn : r < n) (hF : ∀ j, j < n → F j = zq_b (fr j)) (hp : post (zq_sm (zq_nv fr M) V n)) : wpX_numberFor post (cp, nI n, d, nl, md, ex, sk, so, ek, eo, lf, P, O, V, N, M, R, Z, A, F) (nI r) 7 := by
  have hr : r < 32 := by omega
  unfold wpX_numberFor wX_numberFor_87
  dsimp only
  exact br_f (show ¬ (7 : Int32) < 0 by decide) (br_f (show ¬ (8 : Int32) < 7 by decide) (br_f (show ¬ (7 : Int32) = 0 by decide) (br_f (show ¬ (7 : Int32) = 1 by decide) (br_f (show ¬ (7 : Int32) = 2 by decide) (br_f (show ¬ (7 : Int32) = 3 by decide) (br_f (show ¬ (7 : Int32) = 4 by decide) (br_f (show ¬ (7 : Int32) = 5 by decide) (br_f (show ¬ (7 : Int32) = 6 by decide) (br_t rfl (zx_frameSum hn hF hp))))))))))
theorem zx_nf8 {post : Int64 → Prop} (hn : n ≤ 32) (hrn : r < n) (hF : ∀ j, j < n → F j = zq_b (fr j)) (hp : post (lN (zq_cn (zq_nv fr M) n))) : wpX_numberFor post (cp, nI n, d, nl, md, ex, sk, so, ek, eo, lf, P, O, V, N, M, R, Z, A, F) (nI r) 8 := by
  have hr : r < 32 := by omega
  unfold wpX_numberFor wX_numberFor_87
  dsimp only
  exact br_f (show ¬ (8 : Int32) < 0 by decide) (br_f (show ¬ (8 : Int32) < 8 by decide) (br_f (show ¬ (8 : Int32) = 0 by decide) (br_f (show ¬ (8 : Int32) = 1 by decide) (br_f (show ¬ (8 : Int32) = 2 by decide) (br_f (show ¬ (8 : Int32) = 3 by decide) (br_f (show ¬ (8 : Int32) = 4 by decide) (br_f (show ¬ (8 : Int32) = 5 by decide) (br_f (show ¬ (8 : Int32) = 6 by decide) (br_f (show ¬ (8 : Int32) = 7 by decide) (br_t rfl (zx_frameValues hn hF (zq_p hp (nI_l (by have := zq_cn_le (zq_nv fr M) n; omega))))))))))))))
theorem zx_nf9 {post : Int64 → Prop} (hn : n ≤ 32) (hrn : r < n) (hF : ∀ j, j < n → F j = zq_b (fr j)) (hp : post (lN (zq_cn fr n))) : wpX_numberFor post (cp, nI n, d, nl, md, ex, sk, so, ek, eo, lf, P, O, V, N, M, R, Z, A, F) (nI r) 9 := by
  have hr : r < 32 := by omega
  unfold wpX_numberFor wX_numberFor_87
  dsimp only
  exact br_f (show ¬ (9 : Int32) < 0 by decide) (br_t (show (8 : Int32) < 9 by decide) (zx_frameRows hn hF (zq_p hp (nI_l (by have := zq_cn_le fr n; omega)))))
theorem zx_ten0 {post : SX → Prop} (hn : n ≤ 32) (hrn : r < n) (hN : ∀ i, N i = 0 ∨ N i = 1) (hA : ∀ j, j < n → A j = (zq_q n P (zq_cmp P O N d nl)) j) (hp : post (cp, nI n, d, nl, md, ex, sk, so, ek, eo, lf, P, O, V, N, M, vp_updL R r (zq_an n P V M (zq_cmp P O N d nl) fr 0 arg r).2, upd Z r (zq_b (zq_an n P V M (zq_cmp P O N d nl) fr 0 arg r).1), A, F)) : wX_storeResult_10 post (nI r) 0 arg cp (nI n) d nl md ex sk so ek eo lf P O V N M R Z A F := by
  have hr : r < 32 := by omega
  unfold wX_storeResult_10 wX_storeResult_57
  exact zx_av0 (br_t rfl (br_f (show ¬ (0 : Int32) = 7 by decide) (zx_nf0 hn hrn hA (zx_num hr (zx_fin0 zq_an_0 hp)))))
theorem zx_ten1 {post : SX → Prop} (hn : n ≤ 32) (hrn : r < n) (hN : ∀ i, N i = 0 ∨ N i = 1) (hA : ∀ j, j < n → A j = (zq_q n P (zq_cmp P O N d nl)) j) (hp : post (cp, nI n, d, nl, md, ex, sk, so, ek, eo, lf, P, O, V, N, M, vp_updL R r (zq_an n P V M (zq_cmp P O N d nl) fr 1 arg r).2, upd Z r (zq_b (zq_an n P V M (zq_cmp P O N d nl) fr 1 arg r).1), A, F)) : wX_storeResult_10 post (nI r) 1 arg cp (nI n) d nl md ex sk so ek eo lf P O V N M R Z A F := by
  have hr : r < 32 := by omega
  unfold wX_storeResult_10 wX_storeResult_57
  exact zx_av1 (br_t rfl (br_f (show ¬ (1 : Int32) = 7 by decide) (zx_nf1 hn hrn hN (zx_num hr (zx_fin0 zq_an_1 hp)))))
theorem zx_ten2 {post : SX → Prop} (hn : n ≤ 32) (hrn : r < n) (hN : ∀ i, N i = 0 ∨ N i = 1) (hA : ∀ j, j < n → A j = (zq_q n P (zq_cmp P O N d nl)) j) (hp : post (cp, nI n, d, nl, md, ex, sk, so, ek, eo, lf, P, O, V, N, M, vp_updL R r (zq_an n P V M (zq_cmp P O N d nl) fr 2 arg r).2, upd Z r (zq_b (zq_an n P V M (zq_cmp P O N d nl) fr 2 arg r).1), A, F)) : wX_storeResult_10 post (nI r) 2 arg cp (nI n) d nl md ex sk so ek eo lf P O V N M R Z A F := by
  have hr : r < 32 := by omega
  unfold wX_storeResult_10 wX_storeResult_57
  exact zx_av2 (br_t rfl (br_f (show ¬ (2 : Int32) = 7 by decide) (zx_nf2 hn hrn hN (zx_num hr (zx_fin0 zq_an_2 hp)))))
theorem zx_ten3 {post : SX → Prop} (hn : n ≤ 32) (hrn : r < n) (hN : ∀ i, N i = 0 ∨ N i = 1) (hA : ∀ j, j < n → A j = (zq_q n P (zq_cmp P O N d nl)) j) (hp : post (cp, nI n, d, nl, md, ex, sk, so, ek, eo, lf, P, O, V, N, M, vp_updL R r (zq_an n P V M (zq_cmp P O N d nl) fr 3 arg r).2, upd Z r (zq_b (zq_an n P V M (zq_cmp P O N d nl) fr 3 arg r).1), A, F)) : wX_storeResult_10 post (nI r) 3 arg cp (nI n) d nl md ex sk so ek eo lf P O V N M R Z A F := by
  have hr : r < 32 := by omega
  unfold wX_storeResult_10 wX_storeResult_57
  rw [zq_an_3] at hp
  exact zx_av3 (br_f zq_n10 (zx_src3 hn hrn hA (zx_val hr (fun b e => Nat.lt_of_lt_of_le (zq_fd_lt n e).1 hn) hp)))
theorem zx_ten4 {post : SX → Prop} (hn : n ≤ 32) (hrn : r < n) (hN : ∀ i, N i = 0 ∨ N i = 1) (hA : ∀ j, j < n → A j = (zq_q n P (zq_cmp P O N d nl)) j) (hp : post (cp, nI n, d, nl, md, ex, sk, so, ek, eo, lf, P, O, V, N, M, vp_updL R r (zq_an n P V M (zq_cmp P O N d nl) fr 4 arg r).2, upd Z r (zq_b (zq_an n P V M (zq_cmp P O N d nl) fr 4 arg r).1), A, F)) : wX_storeResult_10 post (nI r) 4 arg cp (nI n) d nl md ex sk so ek eo lf P O V N M R Z A F := by
  have hr : r < 32 := by omega
  unfold wX_storeResult_10 wX_storeResult_57
  rw [zq_an_4] at hp
  exact zx_av4 (br_f zq_n10 (zx_src4 hn hrn hA (zx_val hr (fun b e => Nat.lt_of_lt_of_le (zq_fd_lt n e).1 hn) hp)))
theorem zx_ten5 {post : SX → Prop} (hn : n ≤ 32) (hrn : r < n) (hN : ∀ i, N i = 0 ∨ N i = 1) (hA : ∀ j, j < n → A j = (zq_q n P (zq_cmp P O N d nl)) j) (hF : ∀ j, j < n → F j = zq_b (fr j)) (hf : ∀ s, fr s = true → P s = P r) (hp : post (cp, nI n, d, nl, md, ex, sk, so, ek, eo, lf, P, O, V, N, M, vp_updL R r (zq_an n P V M (zq_cmp P O N d nl) fr 5 arg r).2, upd Z r (zq_b (zq_an n P V M (zq_cmp P O N d nl) fr 5 arg r).1), A, F)) : wX_storeResult_10 post (nI r) 5 arg cp (nI n) d nl md ex sk so ek eo lf P O V N M R Z A F := by
  have hr : r < 32 := by omega
  unfold wX_storeResult_10 wX_storeResult_57
  rw [zq_an_5, ← zq_fst (by omega) zq_or hf] at hp
  exact zx_av5 (br_f zq_n10 (zx_src5 hn hrn hA hF (zx_val hr (fun b e => Nat.lt_of_lt_of_le (zq_ex_lt n b e).1 hn) hp)))
theorem zx_ten6 {post : SX → Prop} (hn : n ≤ 32) (hrn : r < n) (hN : ∀ i, N i = 0 ∨ N i = 1) (hA : ∀ j, j < n → A j = (zq_q n P (zq_cmp P O N d nl)) j) (hF : ∀ j, j < n → F j = zq_b (fr j)) (hf : ∀ s, fr s = true → P s = P r) (hp : post (cp, nI n, d, nl, md, ex, sk, so, ek, eo, lf, P, O, V, N, M, vp_updL R r (zq_an n P V M (zq_cmp P O N d nl) fr 6 arg r).2, upd Z r (zq_b (zq_an n P V M (zq_cmp P O N d nl) fr 6 arg r).1), A, F)) : wX_storeResult_10 post (nI r) 6 arg cp (nI n) d nl md ex sk so ek eo lf P O V N M R Z A F := by
  have hr : r < 32 := by omega
  unfold wX_storeResult_10 wX_storeResult_57
  rw [zq_an_6, ← zq_lst (by omega) zq_or hf] at hp
  exact zx_av6 (br_f zq_n10 (zx_src6 hn hrn hA hF (zx_val hr (fun b e => Nat.lt_of_lt_of_le (zq_ex_lt n b e).1 hn) hp)))
theorem zx_ten7 {post : SX → Prop} (hn : n ≤ 32) (hrn : r < n) (hN : ∀ i, N i = 0 ∨ N i = 1) (hA : ∀ j, j < n → A j = (zq_q n P (zq_cmp P O N d nl)) j) (hF : ∀ j, j < n → F j = zq_b (fr j)) (hp : post (cp, nI n, d, nl, md, ex, sk, so, ek, eo, lf, P, O, V, N, M, vp_updL R r (zq_an n P V M (zq_cmp P O N d nl) fr 7 arg r).2, upd Z r (zq_b (zq_an n P V M (zq_cmp P O N d nl) fr 7 arg r).1), A, F)) : wX_storeResult_10 post (nI r) 7 arg cp (nI n) d nl md ex sk so ek eo lf P O V N M R Z A F := by
  have hr : r < 32 := by omega
  unfold wX_storeResult_10 wX_storeResult_57
  have hk : zq_cn (zq_nv fr M) n ≤ 32 := Nat.le_trans (zq_cn_le _ n) hn
  have e0 : nI (zq_cn (zq_nv fr M) n) = 0 ↔ zq_cn (zq_nv fr M) n = 0 := nI_eq (a := zq_cn (zq_nv fr M) n) (b := 0) (by omega) (by omega)
  refine zx_av7 (br_t rfl (br_t rfl (zx_frameValues hn hF (br_c (fun g => zx_null hr (zx_fin1 ?_ hp)) (fun g => zx_nf7 hn hrn hF (zx_num hr (zx_fin0 ?_ hp)))))))
  · rw [zq_an_7, decide_eq_true (e0.mp g), if_pos (e0.mp g)]
  · have g' : ¬ zq_cn (zq_nv fr M) n = 0 := fun z => g (e0.mpr z)
    rw [zq_an_7, decide_eq_false g', if_neg g']
theorem zx_ten8 {post : SX → Prop} (hn : n ≤ 32) (hrn : r < n) (hN : ∀ i, N i = 0 ∨ N i = 1) (hA : ∀ j, j < n → A j = (zq_q n P (zq_cmp P O N d nl)) j) (hF : ∀ j, j < n → F j = zq_b (fr j)) (hp : post (cp, nI n, d, nl, md, ex, sk, so, ek, eo, lf, P, O, V, N, M, vp_updL R r (zq_an n P V M (zq_cmp P O N d nl) fr 8 arg r).2, upd Z r (zq_b (zq_an n P V M (zq_cmp P O N d nl) fr 8 arg r).1), A, F)) : wX_storeResult_10 post (nI r) 8 arg cp (nI n) d nl md ex sk so ek eo lf P O V N M R Z A F := by
  have hr : r < 32 := by omega
  unfold wX_storeResult_10 wX_storeResult_57
  exact zx_av8 (br_t rfl (br_f (show ¬ (8 : Int32) = 7 by decide) (zx_nf8 hn hrn hF (zx_num hr (zx_fin0 zq_an_8 hp)))))
theorem zx_ten9 {post : SX → Prop} (hn : n ≤ 32) (hrn : r < n) (hN : ∀ i, N i = 0 ∨ N i = 1) (hA : ∀ j, j < n → A j = (zq_q n P (zq_cmp P O N d nl)) j) (hF : ∀ j, j < n → F j = zq_b (fr j)) (hp : post (cp, nI n, d, nl, md, ex, sk, so, ek, eo, lf, P, O, V, N, M, vp_updL R r (zq_an n P V M (zq_cmp P O N d nl) fr 9 arg r).2, upd Z r (zq_b (zq_an n P V M (zq_cmp P O N d nl) fr 9 arg r).1), A, F)) : wX_storeResult_10 post (nI r) 9 arg cp (nI n) d nl md ex sk so ek eo lf P O V N M R Z A F := by
  have hr : r < 32 := by omega
  unfold wX_storeResult_10 wX_storeResult_57
  exact zx_av9 (br_t rfl (br_f (show ¬ (9 : Int32) = 7 by decide) (zx_nf9 hn hrn hF (zx_num hr (zx_fin0 zq_an_9 hp)))))
theorem zx_ten10 {post : SX → Prop} (hn : n ≤ 32) (hrn : r < n) (hN : ∀ i, N i = 0 ∨ N i = 1) (hA : ∀ j, j < n → A j = (zq_q n P (zq_cmp P O N d nl)) j) (hF : ∀ j, j < n → F j = zq_b (fr j)) (hp : post (cp, nI n, d, nl, md, ex, sk, so, ek, eo, lf, P, O, V, N, M, vp_updL R r (zq_an n P V M (zq_cmp P O N d nl) fr 10 arg r).2, upd Z r (zq_b (zq_an n P V M (zq_cmp P O N d nl) fr 10 arg r).1), A, F)) : wX_storeResult_10 post (nI r) 10 arg cp (nI n) d nl md ex sk so ek eo lf P O V N M R Z A F := by
  have hr : r < 32 := by omega
  unfold wX_storeResult_10 wX_storeResult_57
  rw [zq_an_10] at hp
  exact zx_av10 (br_f zq_n10 (zx_src10 hn hrn hF (zx_val hr (fun b e => Nat.lt_of_lt_of_le (zq_ex_lt n b e).1 hn) hp)))
theorem zx_ten11 {post : SX → Prop} (hn : n ≤ 32) (hrn : r < n) (hN : ∀ i, N i = 0 ∨ N i = 1) (hA : ∀ j, j < n → A j = (zq_q n P (zq_cmp P O N d nl)) j) (hF : ∀ j, j < n → F j = zq_b (fr j)) (hp : post (cp, nI n, d, nl, md, ex, sk, so, ek, eo, lf, P, O, V, N, M, vp_updL R r (zq_an n P V M (zq_cmp P O N d nl) fr 11 arg r).2, upd Z r (zq_b (zq_an n P V M (zq_cmp P O N d nl) fr 11 arg r).1), A, F)) : wX_storeResult_10 post (nI r) 11 arg cp (nI n) d nl md ex sk so ek eo lf P O V N M R Z A F := by
  have hr : r < 32 := by omega
  unfold wX_storeResult_10 wX_storeResult_57
  rw [zq_an_11] at hp
  exact zx_av11 (br_f zq_n10 (zx_src11 hn hrn hF (zx_val hr (fun b e => Nat.lt_of_lt_of_le (zq_ex_lt n b e).1 hn) hp)))
end ZQJ
