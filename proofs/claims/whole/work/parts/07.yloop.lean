section ZQG
/-! the reference's loop over the frame, compute, rowAt -/
variable {cp d nl md ex sk so ek eo lf f arg : Int32} {P O V N M Z A F : Nat → Int32} {R : Nat → Int64} {n a b r s i : Nat}
variable {c : Nat → Nat → Int32} {fr : Nat → Bool}
theorem zq_bs5 (e : f = 5) : zq_bs f c fr i = zq_o (zq_ex fr (fun i b => zq_bef c i b) i) := if_pos e
theorem zq_bs6 (e5 : ¬ f = 5) (e : f = 6) : zq_bs f c fr i = zq_o (zq_ex fr (fun i b => zq_bef c b i) i) := by unfold zq_bs; rw [if_neg e5, if_pos e]
theorem zq_bsn (e5 : ¬ f = 5) (e6 : ¬ f = 6) : zq_bs f c fr i = -1 := by unfold zq_bs; rw [if_neg e5, if_neg e6]
theorem zq_bs_f (h : fr i = false) : zq_bs f c fr (i + 1) = zq_bs f c fr i := by unfold zq_bs; rw [zq_ex_0 h, zq_ex_0 h]
theorem zq_bs_0 : zq_bs f c fr 0 = -1 := by
  by_cases e5 : f = 5
  · rw [zq_bs5 e5]; rfl
  · by_cases e6 : f = 6
    · rw [zq_bs6 e5 e6]; rfl
    · exact zq_bsn e5 e6
theorem zy_step {post : SY → Prop} {m : Nat} (hn : n ≤ 32) (hr : r < 32) (hi : i < n) (ih : wY_evalRow_240 post (nI r) f cp (nI n) d nl md ex sk so ek eo lf P O V N M R Z m (zq_bs f (zq_cmp P O N d nl) (zq_yf P (zq_cmp P O N d nl) (zq_q n P (zq_cmp P O N d nl)) O N d md ex sk so ek eo r) (i + 1)) (zq_sm (zq_nv (zq_yf P (zq_cmp P O N d nl) (zq_q n P (zq_cmp P O N d nl)) O N d md ex sk so ek eo r) M) V (i + 1)) (lN (zq_cn (zq_nv (zq_yf P (zq_cmp P O N d nl) (zq_q n P (zq_cmp P O N d nl)) O N d md ex sk so ek eo r) M) (i + 1))) (lN (zq_cn (zq_yf P (zq_cmp P O N d nl) (zq_q n P (zq_cmp P O N d nl)) O N d md ex sk so ek eo r) (i + 1))) (zq_mm (zq_nv (zq_yf P (zq_cmp P O N d nl) (zq_q n P (zq_cmp P O N d nl)) O N d md ex sk so ek eo r) M) V (fun x m => decide (x < m)) (i + 1)) (zq_mm (zq_nv (zq_yf P (zq_cmp P O N d nl) (zq_q n P (zq_cmp P O N d nl)) O N d md ex sk so ek eo r) M) V (fun x m => decide (m < x)) (i + 1)) (nI (i + 1))) : wY_evalRow_240 post (nI r) f cp (nI n) d nl md ex sk so ek eo lf P O V N M R Z (m + 1) (zq_bs f (zq_cmp P O N d nl) (zq_yf P (zq_cmp P O N d nl) (zq_q n P (zq_cmp P O N d nl)) O N d md ex sk so ek eo r) i) (zq_sm (zq_nv (zq_yf P (zq_cmp P O N d nl) (zq_q n P (zq_cmp P O N d nl)) O N d md ex sk so ek eo r) M) V i) (lN (zq_cn (zq_nv (zq_yf P (zq_cmp P O N d nl) (zq_q n P (zq_cmp P O N d nl)) O N d md ex sk so ek eo r) M) i)) (lN (zq_cn (zq_yf P (zq_cmp P O N d nl) (zq_q n P (zq_cmp P O N d nl)) O N d md ex sk so ek eo r) i)) (zq_mm (zq_nv (zq_yf P (zq_cmp P O N d nl) (zq_q n P (zq_cmp P O N d nl)) O N d md ex sk so ek eo r) M) V (fun x m => decide (x < m)) i) (zq_mm (zq_nv (zq_yf P (zq_cmp P O N d nl) (zq_q n P (zq_cmp P O N d nl)) O N d md ex sk so ek eo r) M) V (fun x m => decide (m < x)) i) (nI i) := by
  have hi' : i < 32 := by omega
  rw [wY_evalRow_240]
  dsimp only
  refine br_f (nI_ge hi (by omega)) (zy_inFrame hn hi' hr (zq_br (fun g => nm_r (nI_1 i) ?_) (fun g => nm_r (lN_1 _) ?_)))
  · have hv : zq_nv (zq_yf P (zq_cmp P O N d nl) (zq_q n P (zq_cmp P O N d nl)) O N d md ex sk so ek eo r) M i = false := by simp only [zq_nv, g, Bool.false_and]
    rw [zq_bs_f g, zq_sm_f hv, zq_cn_f hv, zq_cn_f g, zq_mm_f hv, zq_mm_f hv] at ih
    exact ih
  · rw [zq_cn_t g] at ih
    have h3 : ∀ x4, x4 = zq_bs f (zq_cmp P O N d nl) (zq_yf P (zq_cmp P O N d nl) (zq_q n P (zq_cmp P O N d nl)) O N d md ex sk so ek eo r) (i + 1) → wY_evalRow_319 post (wY_evalRow_240 post (nI r) f cp (nI n) d nl md ex sk so ek eo lf P O V N M R Z m) (nI r) f x4 (zq_sm (zq_nv (zq_yf P (zq_cmp P O N d nl) (zq_q n P (zq_cmp P O N d nl)) O N d md ex sk so ek eo r) M) V i) (lN (zq_cn (zq_nv (zq_yf P (zq_cmp P O N d nl) (zq_q n P (zq_cmp P O N d nl)) O N d md ex sk so ek eo r) M) i)) (lN (zq_cn (zq_yf P (zq_cmp P O N d nl) (zq_q n P (zq_cmp P O N d nl)) O N d md ex sk so ek eo r) i + 1)) (zq_mm (zq_nv (zq_yf P (zq_cmp P O N d nl) (zq_q n P (zq_cmp P O N d nl)) O N d md ex sk so ek eo r) M) V (fun x m => decide (x < m)) i) (zq_mm (zq_nv (zq_yf P (zq_cmp P O N d nl) (zq_q n P (zq_cmp P O N d nl)) O N d md ex sk so ek eo r) M) V (fun x m => decide (m < x)) i) (nI i) cp (nI n) d nl md ex sk so ek eo lf P O V N M R Z := by
      intro x4 e
      refine zy_319 hi' g ?_
      rw [e]
      exact ih
    clear ih
    by_cases e5 : f = 5
    · have e6 : ¬ f = 6 := by rw [e5]; decide
      refine br_t e5 ?_
      have hb := zq_bs5 (c := (zq_cmp P O N d nl)) (fr := (zq_yf P (zq_cmp P O N d nl) (zq_q n P (zq_cmp P O N d nl)) O N d md ex sk so ek eo r)) (i := i) e5
      have hb' := zq_bs5 (c := (zq_cmp P O N d nl)) (fr := (zq_yf P (zq_cmp P O N d nl) (zq_q n P (zq_cmp P O N d nl)) O N d md ex sk so ek eo r)) (i := i + 1) e5
      cases q : zq_ex (zq_yf P (zq_cmp P O N d nl) (zq_q n P (zq_cmp P O N d nl)) O N d md ex sk so ek eo r) (fun i b => zq_bef (zq_cmp P O N d nl) i b) i with
      | none =>
        rw [q] at hb
        rw [zq_ex_1 g q] at hb'
        rw [hb]
        exact br_t zq_o_neg (br_f e6 (h3 (nI i) hb'.symm))
      | some b =>
        have hbi := (zq_ex_lt i b q).1
        rw [q] at hb
        rw [hb]
        refine br_f (zq_o_pos (show b < 32 by omega)) (zy_before hi' (show b < 32 by omega) (zq_br (fun l => ?_) (fun l => ?_)))
        · rw [zq_ex_3 g q l] at hb'
          exact br_f e6 (h3 (nI b) hb'.symm)
        · rw [zq_ex_2 g q l] at hb'
          exact br_f e6 (h3 (nI i) hb'.symm)
    · refine br_f e5 ?_
      by_cases e6 : f = 6
      · refine br_t e6 ?_
        have hb := zq_bs6 (c := (zq_cmp P O N d nl)) (fr := (zq_yf P (zq_cmp P O N d nl) (zq_q n P (zq_cmp P O N d nl)) O N d md ex sk so ek eo r)) (i := i) e5 e6
        have hb' := zq_bs6 (c := (zq_cmp P O N d nl)) (fr := (zq_yf P (zq_cmp P O N d nl) (zq_q n P (zq_cmp P O N d nl)) O N d md ex sk so ek eo r)) (i := i + 1) e5 e6
        cases q : zq_ex (zq_yf P (zq_cmp P O N d nl) (zq_q n P (zq_cmp P O N d nl)) O N d md ex sk so ek eo r) (fun i b => zq_bef (zq_cmp P O N d nl) b i) i with
        | none =>
          rw [q] at hb
          rw [zq_ex_1 g q] at hb'
          rw [hb]
          exact br_t zq_o_neg (h3 (nI i) hb'.symm)
        | some b =>
          have hbi := (zq_ex_lt i b q).1
          rw [q] at hb
          rw [hb]
          refine br_f (zq_o_pos (show b < 32 by omega)) (zy_before (show b < 32 by omega) hi' (zq_br (fun l => ?_) (fun l => ?_)))
          · rw [zq_ex_3 g q l] at hb'
            exact h3 (nI b) hb'.symm
          · rw [zq_ex_2 g q l] at hb'
            exact h3 (nI i) hb'.symm
      · have hb := zq_bsn (c := (zq_cmp P O N d nl)) (fr := (zq_yf P (zq_cmp P O N d nl) (zq_q n P (zq_cmp P O N d nl)) O N d md ex sk so ek eo r)) (i := i) e5 e6
        have hb' := zq_bsn (c := (zq_cmp P O N d nl)) (fr := (zq_yf P (zq_cmp P O N d nl) (zq_q n P (zq_cmp P O N d nl)) O N d md ex sk so ek eo r)) (i := i + 1) e5 e6
        rw [hb]
        exact br_f e6 (h3 (-1) hb'.symm)
theorem zq_n0m1 : ¬ (0 : Int32) ≤ -1 := by decide
theorem zy_430 {post : SY → Prop} {o : Option Nat} (hr : r < 32) (hM : ∀ i, M i = 0 ∨ M i = 1) (ho : ∀ b, o = some b → b < 32) (hp : post (cp, nI n, d, nl, md, ex, sk, so, ek, eo, lf, P, O, V, N, M, vp_updL R r (zq_one V M o).2, upd Z r (zq_b (zq_one V M o).1))) : wY_evalRow_430 post (nI r) (zq_o o) cp (nI n) d nl md ex sk so ek eo lf P O V N M R Z := by
  cases o with
  | none => exact br_f zq_n0m1 (zy_set1 hr (zy_fin1 zq_one_n hp))
  | some b =>
    have hb := ho b rfl
    show wY_evalRow_430 post (nI r) (nI b) cp (nI n) d nl md ex sk so ek eo lf P O V N M R Z
    unfold wY_evalRow_430
    rw [zq_cl hb]
    exact br_t (nI_pos' (by omega)) ⟨zq_in hb, zq_in hb, zy_one hr (hM b) hp⟩
theorem zy_516 {post : SY → Prop} {x : Bool × Int64} {k : Nat} {v : Int64} (hr : r < 32) (hk : k ≤ 32) (e : x = (decide (k = 0), if k = 0 then 0 else v)) (hp : post (cp, nI n, d, nl, md, ex, sk, so, ek, eo, lf, P, O, V, N, M, vp_updL R r (x).2, upd Z r (zq_b (x).1))) : (lN k = 0 → wY_evalRow_516 post v 1 (nI r) cp (nI n) d nl md ex sk so ek eo lf P O V N M R Z) ∧ (¬ lN k = 0 → wY_evalRow_516 post v 0 (nI r) cp (nI n) d nl md ex sk so ek eo lf P O V N M R Z) := by
  unfold wY_evalRow_516
  refine br_c (fun g => zy_set1 hr (zy_fin1 (x := x) ?_ hp)) (fun g => zy_set0 hr (zy_fin0 (x := x) ?_ hp))
  · have g' := (zq_lN0 hk).mp g
    rw [e, decide_eq_true g', if_pos g']
  · have g' : ¬ k = 0 := fun z => g ((zq_lN0 hk).mpr z)
    rw [e, decide_eq_false g', if_neg g']
theorem zy_542 {post : SY → Prop} {x : Bool × Int64} {k : Nat} {v : Int64} (hr : r < 32) (hk : k ≤ 32) (e : x = (decide (k = 0), if k = 0 then 0 else v)) (hp : post (cp, nI n, d, nl, md, ex, sk, so, ek, eo, lf, P, O, V, N, M, vp_updL R r (x).2, upd Z r (zq_b (x).1))) : (lN k = 0 → wY_evalRow_542 post v 1 (nI r) cp (nI n) d nl md ex sk so ek eo lf P O V N M R Z) ∧ (¬ lN k = 0 → wY_evalRow_542 post v 0 (nI r) cp (nI n) d nl md ex sk so ek eo lf P O V N M R Z) := by
  unfold wY_evalRow_542
  refine br_c (fun g => zy_set1 hr (zy_fin1 (x := x) ?_ hp)) (fun g => zy_set0 hr (zy_fin0 (x := x) ?_ hp))
  · have g' := (zq_lN0 hk).mp g
    rw [e, decide_eq_true g', if_pos g']
  · have g' : ¬ k = 0 := fun z => g ((zq_lN0 hk).mpr z)
    rw [e, decide_eq_false g', if_neg g']
theorem zy_562 {post : SY → Prop} {x : Bool × Int64} {k : Nat} {v : Int64} (hr : r < 32) (hk : k ≤ 32) (e : x = (decide (k = 0), if k = 0 then 0 else v)) (hp : post (cp, nI n, d, nl, md, ex, sk, so, ek, eo, lf, P, O, V, N, M, vp_updL R r (x).2, upd Z r (zq_b (x).1))) : (lN k = 0 → wY_evalRow_562 post v 1 (nI r) cp (nI n) d nl md ex sk so ek eo lf P O V N M R Z) ∧ (¬ lN k = 0 → wY_evalRow_562 post v 0 (nI r) cp (nI n) d nl md ex sk so ek eo lf P O V N M R Z) := by
  unfold wY_evalRow_562
  refine br_c (fun g => zy_set1 hr (zy_fin1 (x := x) ?_ hp)) (fun g => zy_set0 hr (zy_fin0 (x := x) ?_ hp))
  · have g' := (zq_lN0 hk).mp g
    rw [e, decide_eq_true g', if_pos g']
  · have g' : ¬ k = 0 := fun z => g ((zq_lN0 hk).mpr z)
    rw [e, decide_eq_false g', if_neg g']
theorem zy_ev5 {post : SY → Prop} (hn : n ≤ 32) (hr : r < 32) (hM : ∀ i, M i = 0 ∨ M i = 1) (hp : post (cp, nI n, d, nl, md, ex, sk, so, ek, eo, lf, P, O, V, N, M, vp_updL R r ((zq_an n P V M (zq_cmp P O N d nl) (zq_yf P (zq_cmp P O N d nl) (zq_q n P (zq_cmp P O N d nl)) O N d md ex sk so ek eo r) 5 arg r)).2, upd Z r (zq_b ((zq_an n P V M (zq_cmp P O N d nl) (zq_yf P (zq_cmp P O N d nl) (zq_q n P (zq_cmp P O N d nl)) O N d md ex sk so ek eo r) 5 arg r)).1))) : wpY_evalRow post (cp, nI n, d, nl, md, ex, sk, so, ek, eo, lf, P, O, V, N, M, R, Z) (nI r) 5 arg := by
  have hk : zq_cn (zq_nv (zq_yf P (zq_cmp P O N d nl) (zq_q n P (zq_cmp P O N d nl)) O N d md ex sk so ek eo r) M) n ≤ 32 := Nat.le_trans (zq_cn_le _ n) hn
  obtain ⟨m, hm⟩ := zq_lp (W := fun m i => wY_evalRow_240 post (nI r) 5 cp (nI n) d nl md ex sk so ek eo lf P O V N M R Z m (zq_bs 5 (zq_cmp P O N d nl) (zq_yf P (zq_cmp P O N d nl) (zq_q n P (zq_cmp P O N d nl)) O N d md ex sk so ek eo r) i) (zq_sm (zq_nv (zq_yf P (zq_cmp P O N d nl) (zq_q n P (zq_cmp P O N d nl)) O N d md ex sk so ek eo r) M) V i) (lN (zq_cn (zq_nv (zq_yf P (zq_cmp P O N d nl) (zq_q n P (zq_cmp P O N d nl)) O N d md ex sk so ek eo r) M) i)) (lN (zq_cn (zq_yf P (zq_cmp P O N d nl) (zq_q n P (zq_cmp P O N d nl)) O N d md ex sk so ek eo r) i)) (zq_mm (zq_nv (zq_yf P (zq_cmp P O N d nl) (zq_q n P (zq_cmp P O N d nl)) O N d md ex sk so ek eo r) M) V (fun x m => decide (x < m)) i) (zq_mm (zq_nv (zq_yf P (zq_cmp P O N d nl) (zq_q n P (zq_cmp P O N d nl)) O N d md ex sk so ek eo r) M) V (fun x m => decide (m < x)) i) (nI i)) n (fun m => by
    rw [wY_evalRow_240]
    dsimp only
    refine br_t (nI_le (Nat.le_refl n) (by omega)) ?_
    rw [zq_bs5 rfl]
    exact br_t rfl (zy_430 hr hM (fun b e => Nat.lt_of_lt_of_le (zq_ex_lt n b e).1 hn) (by rw [zq_an_5] at hp; exact hp))) (fun m i hi ih => zy_step hn hr hi ih)
  rw [zq_bs_0] at hm
  unfold wpY_evalRow
  dsimp only
  exact br_f (show ¬ (5 : Int32) = 0 by decide) (br_f (show ¬ (5 : Int32) = 1 by decide) (br_f (show ¬ (5 : Int32) = 2 by decide) (br_f (show ¬ (5 : Int32) = 3 by decide) (br_f (show ¬ (5 : Int32) = 4 by decide) ⟨m, hm⟩))))
theorem zy_ev6 {post : SY → Prop} (hn : n ≤ 32) (hr : r < 32) (hM : ∀ i, M i = 0 ∨ M i = 1) (hp : post (cp, nI n, d, nl, md, ex, sk, so, ek, eo, lf, P, O, V, N, M, vp_updL R r ((zq_an n P V M (zq_cmp P O N d nl) (zq_yf P (zq_cmp P O N d nl) (zq_q n P (zq_cmp P O N d nl)) O N d md ex sk so ek eo r) 6 arg r)).2, upd Z r (zq_b ((zq_an n P V M (zq_cmp P O N d nl) (zq_yf P (zq_cmp P O N d nl) (zq_q n P (zq_cmp P O N d nl)) O N d md ex sk so ek eo r) 6 arg r)).1))) : wpY_evalRow post (cp, nI n, d, nl, md, ex, sk, so, ek, eo, lf, P, O, V, N, M, R, Z) (nI r) 6 arg := by
  have hk : zq_cn (zq_nv (zq_yf P (zq_cmp P O N d nl) (zq_q n P (zq_cmp P O N d nl)) O N d md ex sk so ek eo r) M) n ≤ 32 := Nat.le_trans (zq_cn_le _ n) hn
  obtain ⟨m, hm⟩ := zq_lp (W := fun m i => wY_evalRow_240 post (nI r) 6 cp (nI n) d nl md ex sk so ek eo lf P O V N M R Z m (zq_bs 6 (zq_cmp P O N d nl) (zq_yf P (zq_cmp P O N d nl) (zq_q n P (zq_cmp P O N d nl)) O N d md ex sk so ek eo r) i) (zq_sm (zq_nv (zq_yf P (zq_cmp P O N d nl) (zq_q n P (zq_cmp P O N d nl)) O N d md ex sk so ek eo r) M) V i) (lN (zq_cn (zq_nv (zq_yf P (zq_cmp P O N d nl) (zq_q n P (zq_cmp P O N d nl)) O N d md ex sk so ek eo r) M) i)) (lN (zq_cn (zq_yf P (zq_cmp P O N d nl) (zq_q n P (zq_cmp P O N d nl)) O N d md ex sk so ek eo r) i)) (zq_mm (zq_nv (zq_yf P (zq_cmp P O N d nl) (zq_q n P (zq_cmp P O N d nl)) O N d md ex sk so ek eo r) M) V (fun x m => decide (x < m)) i) (zq_mm (zq_nv (zq_yf P (zq_cmp P O N d nl) (zq_q n P (zq_cmp P O N d nl)) O N d md ex sk so ek eo r) M) V (fun x m => decide (m < x)) i) (nI i)) n (fun m => by
    rw [wY_evalRow_240]
    dsimp only
    refine br_t (nI_le (Nat.le_refl n) (by omega)) ?_
    rw [zq_bs6 (show ¬ (6 : Int32) = 5 by decide) rfl]
    exact br_f (show ¬ (6 : Int32) = 5 by decide) (br_t rfl (zy_430 hr hM (fun b e => Nat.lt_of_lt_of_le (zq_ex_lt n b e).1 hn) (by rw [zq_an_6] at hp; exact hp)))) (fun m i hi ih => zy_step hn hr hi ih)
  rw [zq_bs_0] at hm
  unfold wpY_evalRow
  dsimp only
  exact br_f (show ¬ (6 : Int32) = 0 by decide) (br_f (show ¬ (6 : Int32) = 1 by decide) (br_f (show ¬ (6 : Int32) = 2 by decide) (br_f (show ¬ (6 : Int32) = 3 by decide) (br_f (show ¬ (6 : Int32) = 4 by decide) ⟨m, hm⟩))))
theorem zy_ev7 {post : SY → Prop} (hn : n ≤ 32) (hr : r < 32) (hM : ∀ i, M i = 0 ∨ M i = 1) (hp : post (cp, nI n, d, nl, md, ex, sk, so, ek, eo, lf, P, O, V, N, M, vp_updL R r ((zq_an n P V M (zq_cmp P O N d nl) (zq_yf P (zq_cmp P O N d nl) (zq_q n P (zq_cmp P O N d nl)) O N d md ex sk so ek eo r) 7 arg r)).2, upd Z r (zq_b ((zq_an n P V M (zq_cmp P O N d nl) (zq_yf P (zq_cmp P O N d nl) (zq_q n P (zq_cmp P O N d nl)) O N d md ex sk so ek eo r) 7 arg r)).1))) : wpY_evalRow post (cp, nI n, d, nl, md, ex, sk, so, ek, eo, lf, P, O, V, N, M, R, Z) (nI r) 7 arg := by
  have hk : zq_cn (zq_nv (zq_yf P (zq_cmp P O N d nl) (zq_q n P (zq_cmp P O N d nl)) O N d md ex sk so ek eo r) M) n ≤ 32 := Nat.le_trans (zq_cn_le _ n) hn
  obtain ⟨m, hm⟩ := zq_lp (W := fun m i => wY_evalRow_240 post (nI r) 7 cp (nI n) d nl md ex sk so ek eo lf P O V N M R Z m (zq_bs 7 (zq_cmp P O N d nl) (zq_yf P (zq_cmp P O N d nl) (zq_q n P (zq_cmp P O N d nl)) O N d md ex sk so ek eo r) i) (zq_sm (zq_nv (zq_yf P (zq_cmp P O N d nl) (zq_q n P (zq_cmp P O N d nl)) O N d md ex sk so ek eo r) M) V i) (lN (zq_cn (zq_nv (zq_yf P (zq_cmp P O N d nl) (zq_q n P (zq_cmp P O N d nl)) O N d md ex sk so ek eo r) M) i)) (lN (zq_cn (zq_yf P (zq_cmp P O N d nl) (zq_q n P (zq_cmp P O N d nl)) O N d md ex sk so ek eo r) i)) (zq_mm (zq_nv (zq_yf P (zq_cmp P O N d nl) (zq_q n P (zq_cmp P O N d nl)) O N d md ex sk so ek eo r) M) V (fun x m => decide (x < m)) i) (zq_mm (zq_nv (zq_yf P (zq_cmp P O N d nl) (zq_q n P (zq_cmp P O N d nl)) O N d md ex sk so ek eo r) M) V (fun x m => decide (m < x)) i) (nI i)) n (fun m => by
    rw [wY_evalRow_240]
    dsimp only
    refine br_t (nI_le (Nat.le_refl n) (by omega)) ?_
    skip
    exact br_f (show ¬ (7 : Int32) = 5 by decide) (br_f (show ¬ (7 : Int32) = 6 by decide) (br_f (show ¬ (7 : Int32) = 8 by decide) (br_f (show ¬ (7 : Int32) = 9 by decide) (br_t rfl (zy_516 hr hk zq_an_7 hp)))))) (fun m i hi ih => zy_step hn hr hi ih)
  rw [zq_bs_0] at hm
  unfold wpY_evalRow
  dsimp only
  exact br_f (show ¬ (7 : Int32) = 0 by decide) (br_f (show ¬ (7 : Int32) = 1 by decide) (br_f (show ¬ (7 : Int32) = 2 by decide) (br_f (show ¬ (7 : Int32) = 3 by decide) (br_f (show ¬ (7 : Int32) = 4 by decide) ⟨m, hm⟩))))
theorem zy_ev8 {post : SY → Prop} (hn : n ≤ 32) (hr : r < 32) (hM : ∀ i, M i = 0 ∨ M i = 1) (hp : post (cp, nI n, d, nl, md, ex, sk, so, ek, eo, lf, P, O, V, N, M, vp_updL R r ((zq_an n P V M (zq_cmp P O N d nl) (zq_yf P (zq_cmp P O N d nl) (zq_q n P (zq_cmp P O N d nl)) O N d md ex sk so ek eo r) 8 arg r)).2, upd Z r (zq_b ((zq_an n P V M (zq_cmp P O N d nl) (zq_yf P (zq_cmp P O N d nl) (zq_q n P (zq_cmp P O N d nl)) O N d md ex sk so ek eo r) 8 arg r)).1))) : wpY_evalRow post (cp, nI n, d, nl, md, ex, sk, so, ek, eo, lf, P, O, V, N, M, R, Z) (nI r) 8 arg := by
  have hk : zq_cn (zq_nv (zq_yf P (zq_cmp P O N d nl) (zq_q n P (zq_cmp P O N d nl)) O N d md ex sk so ek eo r) M) n ≤ 32 := Nat.le_trans (zq_cn_le _ n) hn
  obtain ⟨m, hm⟩ := zq_lp (W := fun m i => wY_evalRow_240 post (nI r) 8 cp (nI n) d nl md ex sk so ek eo lf P O V N M R Z m (zq_bs 8 (zq_cmp P O N d nl) (zq_yf P (zq_cmp P O N d nl) (zq_q n P (zq_cmp P O N d nl)) O N d md ex sk so ek eo r) i) (zq_sm (zq_nv (zq_yf P (zq_cmp P O N d nl) (zq_q n P (zq_cmp P O N d nl)) O N d md ex sk so ek eo r) M) V i) (lN (zq_cn (zq_nv (zq_yf P (zq_cmp P O N d nl) (zq_q n P (zq_cmp P O N d nl)) O N d md ex sk so ek eo r) M) i)) (lN (zq_cn (zq_yf P (zq_cmp P O N d nl) (zq_q n P (zq_cmp P O N d nl)) O N d md ex sk so ek eo r) i)) (zq_mm (zq_nv (zq_yf P (zq_cmp P O N d nl) (zq_q n P (zq_cmp P O N d nl)) O N d md ex sk so ek eo r) M) V (fun x m => decide (x < m)) i) (zq_mm (zq_nv (zq_yf P (zq_cmp P O N d nl) (zq_q n P (zq_cmp P O N d nl)) O N d md ex sk so ek eo r) M) V (fun x m => decide (m < x)) i) (nI i)) n (fun m => by
    rw [wY_evalRow_240]
    dsimp only
    refine br_t (nI_le (Nat.le_refl n) (by omega)) ?_
    skip
    exact br_f (show ¬ (8 : Int32) = 5 by decide) (br_f (show ¬ (8 : Int32) = 6 by decide) (br_t rfl (zy_set0 hr (zy_fin0 zq_an_8 hp))))) (fun m i hi ih => zy_step hn hr hi ih)
  rw [zq_bs_0] at hm
  unfold wpY_evalRow
  dsimp only
  exact br_f (show ¬ (8 : Int32) = 0 by decide) (br_f (show ¬ (8 : Int32) = 1 by decide) (br_f (show ¬ (8 : Int32) = 2 by decide) (br_f (show ¬ (8 : Int32) = 3 by decide) (br_f (show ¬ (8 : Int32) = 4 by decide) ⟨m, hm⟩))))
theorem zy_ev9 {post : SY → Prop} (hn : n ≤ 32) (hr : r < 32) (hM : ∀ i, M i = 0 ∨ M i = 1) (hp : post (cp, nI n, d, nl, md, ex, sk, so, ek, eo, lf, P, O, V, N, M, vp_updL R r ((zq_an n P V M (zq_cmp P O N d nl) (zq_yf P (zq_cmp P O N d nl) (zq_q n P (zq_cmp P O N d nl)) O N d md ex sk so ek eo r) 9 arg r)).2, upd Z r (zq_b ((zq_an n P V M (zq_cmp P O N d nl) (zq_yf P (zq_cmp P O N d nl) (zq_q n P (zq_cmp P O N d nl)) O N d md ex sk so ek eo r) 9 arg r)).1))) : wpY_evalRow post (cp, nI n, d, nl, md, ex, sk, so, ek, eo, lf, P, O, V, N, M, R, Z) (nI r) 9 arg := by
  have hk : zq_cn (zq_nv (zq_yf P (zq_cmp P O N d nl) (zq_q n P (zq_cmp P O N d nl)) O N d md ex sk so ek eo r) M) n ≤ 32 := Nat.le_trans (zq_cn_le _ n) hn
  obtain ⟨m, hm⟩ := zq_lp (W := fun m i => wY_evalRow_240 post (nI r) 9 cp (nI n) d nl md ex sk so ek eo lf P O V N M R Z m (zq_bs 9 (zq_cmp P O N d nl) (zq_yf P (zq_cmp P O N d nl) (zq_q n P (zq_cmp P O N d nl)) O N d md ex sk so ek eo r) i) (zq_sm (zq_nv (zq_yf P (zq_cmp P O N d nl) (zq_q n P (zq_cmp P O N d nl)) O N d md ex sk so ek eo r) M) V i) (lN (zq_cn (zq_nv (zq_yf P (zq_cmp P O N d nl) (zq_q n P (zq_cmp P O N d nl)) O N d md ex sk so ek eo r) M) i)) (lN (zq_cn (zq_yf P (zq_cmp P O N d nl) (zq_q n P (zq_cmp P O N d nl)) O N d md ex sk so ek eo r) i)) (zq_mm (zq_nv (zq_yf P (zq_cmp P O N d nl) (zq_q n P (zq_cmp P O N d nl)) O N d md ex sk so ek eo r) M) V (fun x m => decide (x < m)) i) (zq_mm (zq_nv (zq_yf P (zq_cmp P O N d nl) (zq_q n P (zq_cmp P O N d nl)) O N d md ex sk so ek eo r) M) V (fun x m => decide (m < x)) i) (nI i)) n (fun m => by
    rw [wY_evalRow_240]
    dsimp only
    refine br_t (nI_le (Nat.le_refl n) (by omega)) ?_
    skip
    exact br_f (show ¬ (9 : Int32) = 5 by decide) (br_f (show ¬ (9 : Int32) = 6 by decide) (br_f (show ¬ (9 : Int32) = 8 by decide) (br_t rfl (zy_set0 hr (zy_fin0 zq_an_9 hp)))))) (fun m i hi ih => zy_step hn hr hi ih)
  rw [zq_bs_0] at hm
  unfold wpY_evalRow
  dsimp only
  exact br_f (show ¬ (9 : Int32) = 0 by decide) (br_f (show ¬ (9 : Int32) = 1 by decide) (br_f (show ¬ (9 : Int32) = 2 by decide) (br_f (show ¬ (9 : Int32) = 3 by decide) (br_f (show ¬ (9 : Int32) = 4 by decide) ⟨m, hm⟩))))
theorem zy_ev10 {post : SY → Prop} (hn : n ≤ 32) (hr : r < 32) (hM : ∀ i, M i = 0 ∨ M i = 1) (hp : post (cp, nI n, d, nl, md, ex, sk, so, ek, eo, lf, P, O, V, N, M, vp_updL R r ((zq_an n P V M (zq_cmp P O N d nl) (zq_yf P (zq_cmp P O N d nl) (zq_q n P (zq_cmp P O N d nl)) O N d md ex sk so ek eo r) 10 arg r)).2, upd Z r (zq_b ((zq_an n P V M (zq_cmp P O N d nl) (zq_yf P (zq_cmp P O N d nl) (zq_q n P (zq_cmp P O N d nl)) O N d md ex sk so ek eo r) 10 arg r)).1))) : wpY_evalRow post (cp, nI n, d, nl, md, ex, sk, so, ek, eo, lf, P, O, V, N, M, R, Z) (nI r) 10 arg := by
  have hk : zq_cn (zq_nv (zq_yf P (zq_cmp P O N d nl) (zq_q n P (zq_cmp P O N d nl)) O N d md ex sk so ek eo r) M) n ≤ 32 := Nat.le_trans (zq_cn_le _ n) hn
  obtain ⟨m, hm⟩ := zq_lp (W := fun m i => wY_evalRow_240 post (nI r) 10 cp (nI n) d nl md ex sk so ek eo lf P O V N M R Z m (zq_bs 10 (zq_cmp P O N d nl) (zq_yf P (zq_cmp P O N d nl) (zq_q n P (zq_cmp P O N d nl)) O N d md ex sk so ek eo r) i) (zq_sm (zq_nv (zq_yf P (zq_cmp P O N d nl) (zq_q n P (zq_cmp P O N d nl)) O N d md ex sk so ek eo r) M) V i) (lN (zq_cn (zq_nv (zq_yf P (zq_cmp P O N d nl) (zq_q n P (zq_cmp P O N d nl)) O N d md ex sk so ek eo r) M) i)) (lN (zq_cn (zq_yf P (zq_cmp P O N d nl) (zq_q n P (zq_cmp P O N d nl)) O N d md ex sk so ek eo r) i)) (zq_mm (zq_nv (zq_yf P (zq_cmp P O N d nl) (zq_q n P (zq_cmp P O N d nl)) O N d md ex sk so ek eo r) M) V (fun x m => decide (x < m)) i) (zq_mm (zq_nv (zq_yf P (zq_cmp P O N d nl) (zq_q n P (zq_cmp P O N d nl)) O N d md ex sk so ek eo r) M) V (fun x m => decide (m < x)) i) (nI i)) n (fun m => by
    rw [wY_evalRow_240]
    dsimp only
    refine br_t (nI_le (Nat.le_refl n) (by omega)) ?_
    skip
    exact br_f (show ¬ (10 : Int32) = 5 by decide) (br_f (show ¬ (10 : Int32) = 6 by decide) (br_f (show ¬ (10 : Int32) = 8 by decide) (br_f (show ¬ (10 : Int32) = 9 by decide) (br_f (show ¬ (10 : Int32) = 7 by decide) (br_t rfl (zy_542 hr hk zq_mn10.symm hp))))))) (fun m i hi ih => zy_step hn hr hi ih)
  rw [zq_bs_0] at hm
  unfold wpY_evalRow
  dsimp only
  exact br_f (show ¬ (10 : Int32) = 0 by decide) (br_f (show ¬ (10 : Int32) = 1 by decide) (br_f (show ¬ (10 : Int32) = 2 by decide) (br_f (show ¬ (10 : Int32) = 3 by decide) (br_f (show ¬ (10 : Int32) = 4 by decide) ⟨m, hm⟩))))
theorem zy_ev11 {post : SY → Prop} (hn : n ≤ 32) (hr : r < 32) (hM : ∀ i, M i = 0 ∨ M i = 1) (hp : post (cp, nI n, d, nl, md, ex, sk, so, ek, eo, lf, P, O, V, N, M, vp_updL R r ((zq_an n P V M (zq_cmp P O N d nl) (zq_yf P (zq_cmp P O N d nl) (zq_q n P (zq_cmp P O N d nl)) O N d md ex sk so ek eo r) 11 arg r)).2, upd Z r (zq_b ((zq_an n P V M (zq_cmp P O N d nl) (zq_yf P (zq_cmp P O N d nl) (zq_q n P (zq_cmp P O N d nl)) O N d md ex sk so ek eo r) 11 arg r)).1))) : wpY_evalRow post (cp, nI n, d, nl, md, ex, sk, so, ek, eo, lf, P, O, V, N, M, R, Z) (nI r) 11 arg := by
  have hk : zq_cn (zq_nv (zq_yf P (zq_cmp P O N d nl) (zq_q n P (zq_cmp P O N d nl)) O N d md ex sk so ek eo r) M) n ≤ 32 := Nat.le_trans (zq_cn_le _ n) hn
  obtain ⟨m, hm⟩ := zq_lp (W := fun m i => wY_evalRow_240 post (nI r) 11 cp (nI n) d nl md ex sk so ek eo lf P O V N M R Z m (zq_bs 11 (zq_cmp P O N d nl) (zq_yf P (zq_cmp P O N d nl) (zq_q n P (zq_cmp P O N d nl)) O N d md ex sk so ek eo r) i) (zq_sm (zq_nv (zq_yf P (zq_cmp P O N d nl) (zq_q n P (zq_cmp P O N d nl)) O N d md ex sk so ek eo r) M) V i) (lN (zq_cn (zq_nv (zq_yf P (zq_cmp P O N d nl) (zq_q n P (zq_cmp P O N d nl)) O N d md ex sk so ek eo r) M) i)) (lN (zq_cn (zq_yf P (zq_cmp P O N d nl) (zq_q n P (zq_cmp P O N d nl)) O N d md ex sk so ek eo r) i)) (zq_mm (zq_nv (zq_yf P (zq_cmp P O N d nl) (zq_q n P (zq_cmp P O N d nl)) O N d md ex sk so ek eo r) M) V (fun x m => decide (x < m)) i) (zq_mm (zq_nv (zq_yf P (zq_cmp P O N d nl) (zq_q n P (zq_cmp P O N d nl)) O N d md ex sk so ek eo r) M) V (fun x m => decide (m < x)) i) (nI i)) n (fun m => by
    rw [wY_evalRow_240]
    dsimp only
    refine br_t (nI_le (Nat.le_refl n) (by omega)) ?_
    skip
    exact br_f (show ¬ (11 : Int32) = 5 by decide) (br_f (show ¬ (11 : Int32) = 6 by decide) (br_f (show ¬ (11 : Int32) = 8 by decide) (br_f (show ¬ (11 : Int32) = 9 by decide) (br_f (show ¬ (11 : Int32) = 7 by decide) (br_f (show ¬ (11 : Int32) = 10 by decide) (zy_562 hr hk zq_mx11.symm hp))))))) (fun m i hi ih => zy_step hn hr hi ih)
  rw [zq_bs_0] at hm
  unfold wpY_evalRow
  dsimp only
  exact br_f (show ¬ (11 : Int32) = 0 by decide) (br_f (show ¬ (11 : Int32) = 1 by decide) (br_f (show ¬ (11 : Int32) = 2 by decide) (br_f (show ¬ (11 : Int32) = 3 by decide) (br_f (show ¬ (11 : Int32) = 4 by decide) ⟨m, hm⟩))))
end ZQG
