section ZQN
theorem i_vc_compute {k : Nat} {u : SX} {v : SY} (I : i_Rel k u v) (hk : k + 5 ≤ 2561) (v1 : Int32) (v2 : Int32) : wpX_compute (fun r u' => wpY_compute (fun r' v' => r' = r ∧ i_Rel (k + 5) u' v') v v1 v2) u v1 v2 := by
  have J := I
  obtain ⟨C, n, d, nl, md, ex, sk, so, ek, eo, lf, P, O, V, N, M, R, Z, A, F, rfl, rfl, hI⟩ := I
  obtain ⟨hC, hn, i1, i2, i3, hS⟩ := hI
  have hn' : n ≤ 32 := by omega
  by_cases h0 : v1 < 0
  · exact br_t h0 (br_t h0 ⟨rfl, J⟩)
  by_cases h11 : v1 ≤ 11
  · have hf := zq_f12 h0 h11
    have G : ∀ T : (Int32 → SY → Prop) → Prop, (∀ p, wY_compute_28 p v1 v2 (nI C) (nI n) d nl md ex sk so ek eo lf P O V N M R Z → T p) → wX_compute_28 (fun r u' => T (fun r' v' => r' = r ∧ i_Rel (k + 5) u' v')) v1 v2 (nI C) (nI n) d nl md ex sk so ek eo lf P O V N M R Z A F := by
      intro T hT
      refine zx_28 hf hn' (fun i => (i1 i).1) hS (fun ms => hT _ ?_) (fun ms A' F' => hT _ ?_)
      · exact zy_28 hf hn' (fun i => (i2 i).1) (fun _ => ⟨rfl, J⟩) (fun z => absurd (zq_ms_t.mp ms) z)
      · refine zy_28 hf hn' (fun i => (i2 i).1) (fun z => absurd (zq_ms_t.mpr z) (by rw [ms]; decide)) (fun _ => ⟨rfl, ⟨C, n, d, nl, md, ex, sk, so, ek, eo, v1, P, O, V, N, M, _, _, A', F', rfl, rfl, ⟨hC, hn, i1, i2, ?_, hS⟩⟩⟩)
        exact zq_mk_p2 (Q := fun a b => (a = 0 ∨ a = 1) ∧ (¬ a = 0 → b = 0)) i3 (fun j => ⟨zq_b01 _, fun z => zq_an_Z (by
          cases q : (zq_an n P V M (zq_cmp P O N d nl) (zq_yf P (zq_cmp P O N d nl) (zq_q n P (zq_cmp P O N d nl)) O N d md ex sk so ek eo j) v1 v2 j).1
          · rw [q] at z; exact absurd rfl z
          · rfl)⟩) n
    by_cases e3 : v1 = 3
    · by_cases p : 0 ≤ v2
      · exact br_f h0 (br_t h11 (br_t e3 (br_t p (G (fun q => wpY_compute q (nI C, nI n, d, nl, md, ex, sk, so, ek, eo, lf, P, O, V, N, M, R, Z) v1 v2) (fun q hq => br_f h0 (br_t h11 (br_t e3 (br_t p hq))))))))
      · exact br_f h0 (br_t h11 (br_t e3 (br_f p (br_f h0 (br_t h11 (br_t e3 (br_f p ⟨rfl, J⟩)))))))
    by_cases e4 : v1 = 4
    · by_cases p : 0 ≤ v2
      · exact br_f h0 (br_t h11 (br_f e3 (br_t e4 (br_t p (G (fun q => wpY_compute q (nI C, nI n, d, nl, md, ex, sk, so, ek, eo, lf, P, O, V, N, M, R, Z) v1 v2) (fun q hq => br_f h0 (br_t h11 (br_f e3 (br_t e4 (br_t p hq))))))))))
      · exact br_f h0 (br_t h11 (br_f e3 (br_t e4 (br_f p (br_f h0 (br_t h11 (br_f e3 (br_t e4 (br_f p ⟨rfl, J⟩)))))))))
    · exact br_f h0 (br_t h11 (br_f e3 (br_f e4 (G (fun q => wpY_compute q (nI C, nI n, d, nl, md, ex, sk, so, ek, eo, lf, P, O, V, N, M, R, Z) v1 v2) (fun q hq => br_f h0 (br_t h11 (br_f e3 (br_f e4 hq))))))))
  · exact br_f h0 (br_f h11 (br_f h0 (br_f h11 ⟨rfl, J⟩)))
theorem i_vc_result {k : Nat} {u : SX} {v : SY} (I : i_Rel k u v) (hk : k + 5 ≤ 2561) (v1 : Int32) : wpX_result (fun r => wpY_result (fun r' => r' = r ∧ i_Rel (k + 5) u v) v v1) u v1 := by
  have J := I
  obtain ⟨C, n, d, nl, md, ex, sk, so, ek, eo, lf, P, O, V, N, M, R, Z, A, F, rfl, rfl, hI⟩ := I
  obtain ⟨hC, hn, i1, i2, i3, hS⟩ := hI
  have hn' : n ≤ 32 := by omega
  unfold wpX_result wpY_result
  dsimp only
  rcases zq_ix v1 hn' with h | h | ⟨j, hj, rfl⟩
  · exact zx_is0 (Or.inl h) (br_t rfl (br_t h ⟨rfl, J⟩))
  · exact zx_is0 (Or.inr h) (br_t rfl (br_f h.1 (br_t h.2.1 ⟨rfl, J⟩)))
  · have hj' : j < 32 := by omega
    rw [zq_cl hj']
    refine zx_is1 hn' hj (br_f zq_n10 ⟨zq_in hj', br_f (nI_pos (by omega)) (br_f (nI_ge hj (by omega)) ⟨zq_in hj', br_c (fun _ => ⟨zq_in hj', rfl, J⟩) (fun z => ⟨?_, J⟩)⟩)⟩)
    exact ((i3 j).2 z).symm
theorem i_vc_resultIsNull {k : Nat} {u : SX} {v : SY} (I : i_Rel k u v) (hk : k + 5 ≤ 2561) (v1 : Int32) : wpX_resultIsNull (fun r => wpY_resultIsNull (fun r' => r' = r ∧ i_Rel (k + 5) u v) v v1) u v1 := by
  have J := I
  obtain ⟨C, n, d, nl, md, ex, sk, so, ek, eo, lf, P, O, V, N, M, R, Z, A, F, rfl, rfl, hI⟩ := I
  obtain ⟨hC, hn, i1, i2, i3, hS⟩ := hI
  have hn' : n ≤ 32 := by omega
  unfold wpX_resultIsNull wpY_resultIsNull
  dsimp only
  rcases zq_ix v1 hn' with h | h | ⟨j, hj, rfl⟩
  · exact zx_is0 (Or.inl h) (br_t rfl (br_t h ⟨rfl, J⟩))
  · exact zx_is0 (Or.inr h) (br_t rfl (br_f h.1 (br_f h.2.2 ⟨rfl, J⟩)))
  · have hj' : j < 32 := by omega
    rw [zq_cl hj']
    have p0 : ¬ nI j < 0 := nI_pos (by omega)
    have p1 : nI j < nI n := nI_lt hj (by omega)
    refine zx_is1 hn' hj (br_f zq_n10 ⟨zq_in hj', ?_⟩)
    rcases (i3 j).1 with z | z
    · rw [z]
      exact br_t rfl (br_f p0 (br_t p1 ⟨zq_in hj', rfl, rfl, J⟩))
    · rw [z]
      exact br_f zq_n10 (br_f p0 (br_t p1 ⟨zq_in hj', rfl, rfl, J⟩))
theorem i_vc_rowAt {k : Nat} {u : SX} {v : SY} (I : i_Rel k u v) (hk : k + 5 ≤ 2561) (v1 : Int32) : wpX_rowAt (fun r => wpY_rowAt (fun r' => r' = r ∧ i_Rel (k + 5) u v) v v1) u v1 := by
  have J := I
  obtain ⟨C, n, d, nl, md, ex, sk, so, ek, eo, lf, P, O, V, N, M, R, Z, A, F, rfl, rfl, hI⟩ := I
  obtain ⟨hC, hn, i1, i2, i3, hS⟩ := hI
  exact zx_rowAt (fun i => (i1 i).1) (by omega) (zy_rowAt (by omega) ⟨rfl, J⟩)
theorem i_vc_rowField {k : Nat} {u : SX} {v : SY} (I : i_Rel k u v) (hk : k + 5 ≤ 2561) (v1 : Int32) (v2 : Int32) : wpX_rowField (fun r => wpY_rowField (fun r' => r' = r ∧ i_Rel (k + 5) u v) v v1 v2) u v1 v2 := by
  have J := I
  obtain ⟨C, n, d, nl, md, ex, sk, so, ek, eo, lf, P, O, V, N, M, R, Z, A, F, rfl, rfl, hI⟩ := I
  obtain ⟨hC, hn, i1, i2, i3, hS⟩ := hI
  have hn' : n ≤ 32 := by omega
  unfold wpX_rowField wX_rowField_75 wpY_rowField wY_rowField_94
  dsimp only
  rcases zq_ix v1 hn' with h | h | ⟨j, hj, rfl⟩
  · exact zx_is0 (Or.inl h) (br_t rfl (br_t h ⟨rfl, J⟩))
  · exact zx_is0 (Or.inr h) (br_t rfl (br_f h.1 (br_f h.2.2 ⟨rfl, J⟩)))
  · have hj' : j < 32 := by omega
    rw [zq_cl hj']
    have ii := zq_in hj'
    have p0 : ¬ nI j < 0 := nI_pos (by omega)
    have p1 : nI j < nI n := nI_lt hj (by omega)
    refine zx_is1 hn' hj (br_f zq_n10 ?_)
    by_cases c0 : v2 < 0
    · have d0 : ¬ v2 = 0 := fun z => by rw [z] at c0; exact absurd c0 (by decide)
      have d1 : ¬ v2 = 1 := fun z => by rw [z] at c0; exact absurd c0 (by decide)
      have d2 : ¬ v2 = 2 := fun z => by rw [z] at c0; exact absurd c0 (by decide)
      have d3 : ¬ v2 = 3 := fun z => by rw [z] at c0; exact absurd c0 (by decide)
      exact br_t c0 (br_f p0 (br_t p1 (br_f d0 (br_f d1 (br_f d2 (br_f d3 ⟨rfl, J⟩))))))
    by_cases c3 : 3 < v2
    · have d0 : ¬ v2 = 0 := fun z => by rw [z] at c3; exact absurd c3 (by decide)
      have d1 : ¬ v2 = 1 := fun z => by rw [z] at c3; exact absurd c3 (by decide)
      have d2 : ¬ v2 = 2 := fun z => by rw [z] at c3; exact absurd c3 (by decide)
      have d3 : ¬ v2 = 3 := fun z => by rw [z] at c3; exact absurd c3 (by decide)
      exact br_f c0 (br_t c3 (br_f p0 (br_t p1 (br_f d0 (br_f d1 (br_f d2 (br_f d3 ⟨rfl, J⟩)))))))
    refine br_f c0 (br_f c3 ?_)
    rcases zq_r3 c0 (Int32.not_lt.mp c3) with rfl | rfl | rfl | rfl
    · exact br_t rfl ⟨ii, br_f p0 (br_t p1 (br_t rfl ⟨ii, rfl, J⟩))⟩
    · exact br_f zq_n10 (br_t rfl ⟨ii, br_f p0 (br_t p1 (br_f zq_n10 (br_t rfl ⟨ii, br_c (fun _ => ⟨ii, rfl, J⟩) (fun z => ⟨((i1 j).2 z).symm, J⟩)⟩)))⟩)
    · exact br_f zq_n20 (br_f zq_n21 (br_t rfl ⟨ii, br_f p0 (br_t p1 (br_f zq_n20 (br_f zq_n21 (br_t rfl ⟨ii, br_c (fun _ => ⟨ii, rfl, J⟩) (fun z => ⟨((i2 j).2 z).symm, J⟩)⟩))))⟩))
    · refine br_f zq_n30 (br_f zq_n31 (br_f zq_n32 (br_t rfl ⟨ii, ?_⟩)))
      by_cases a0 : N j = 0
      · by_cases b0 : M j = 0
        · exact br_t a0 ⟨ii, br_t b0 (br_f p0 (br_t p1 (br_f zq_n30 (br_f zq_n31 (br_f zq_n32 (br_t rfl ⟨ii, br_t a0 ⟨ii, br_t b0 ⟨rfl, J⟩⟩⟩))))))⟩
        · exact br_t a0 ⟨ii, br_f b0 (br_f p0 (br_t p1 (br_f zq_n30 (br_f zq_n31 (br_f zq_n32 (br_t rfl ⟨ii, br_t a0 ⟨ii, br_f b0 ⟨rfl, J⟩⟩⟩))))))⟩
      · by_cases b0 : M j = 0
        · exact br_f a0 ⟨ii, br_t b0 (br_f p0 (br_t p1 (br_f zq_n30 (br_f zq_n31 (br_f zq_n32 (br_t rfl ⟨ii, br_f a0 ⟨ii, br_t b0 ⟨rfl, J⟩⟩⟩))))))⟩
        · exact br_f a0 ⟨ii, br_f b0 (br_f p0 (br_t p1 (br_f zq_n30 (br_f zq_n31 (br_f zq_n32 (br_t rfl ⟨ii, br_f a0 ⟨ii, br_f b0 ⟨rfl, J⟩⟩⟩))))))⟩
theorem i_vc_specField {k : Nat} {u : SX} {v : SY} (I : i_Rel k u v) (hk : k + 5 ≤ 2561) (v1 : Int32) : wpX_specField (fun r => wpY_specField (fun r' => r' = r ∧ i_Rel (k + 5) u v) v v1) u v1 := by
  have J := I
  obtain ⟨C, n, d, nl, md, ex, sk, so, ek, eo, lf, P, O, V, N, M, R, Z, A, F, rfl, rfl, hI⟩ := I
  by_cases c : v1 < 0
  · have d0 : ¬ v1 = 0 := fun z => by rw [z] at c; exact absurd c (by decide)
    have d1 : ¬ v1 = 1 := fun z => by rw [z] at c; exact absurd c (by decide)
    have d2 : ¬ v1 = 2 := fun z => by rw [z] at c; exact absurd c (by decide)
    have d3 : ¬ v1 = 3 := fun z => by rw [z] at c; exact absurd c (by decide)
    have d4 : ¬ v1 = 4 := fun z => by rw [z] at c; exact absurd c (by decide)
    have d5 : ¬ v1 = 5 := fun z => by rw [z] at c; exact absurd c (by decide)
    have d6 : ¬ v1 = 6 := fun z => by rw [z] at c; exact absurd c (by decide)
    have d7 : ¬ v1 = 7 := fun z => by rw [z] at c; exact absurd c (by decide)
    have d8 : ¬ v1 = 8 := fun z => by rw [z] at c; exact absurd c (by decide)
    exact br_t c (br_f d0 (br_f d1 (br_f d2 (br_f d3 (br_f d4 (br_f d5 (br_f d6 (br_f d7 (br_f d8 ⟨rfl, J⟩)))))))))
  by_cases e : 8 < v1
  · have d0 : ¬ v1 = 0 := fun z => by rw [z] at e; exact absurd e (by decide)
    have d1 : ¬ v1 = 1 := fun z => by rw [z] at e; exact absurd e (by decide)
    have d2 : ¬ v1 = 2 := fun z => by rw [z] at e; exact absurd e (by decide)
    have d3 : ¬ v1 = 3 := fun z => by rw [z] at e; exact absurd e (by decide)
    have d4 : ¬ v1 = 4 := fun z => by rw [z] at e; exact absurd e (by decide)
    have d5 : ¬ v1 = 5 := fun z => by rw [z] at e; exact absurd e (by decide)
    have d6 : ¬ v1 = 6 := fun z => by rw [z] at e; exact absurd e (by decide)
    have d7 : ¬ v1 = 7 := fun z => by rw [z] at e; exact absurd e (by decide)
    have d8 : ¬ v1 = 8 := fun z => by rw [z] at e; exact absurd e (by decide)
    exact br_f c (br_t e (br_f d0 (br_f d1 (br_f d2 (br_f d3 (br_f d4 (br_f d5 (br_f d6 (br_f d7 (br_f d8 ⟨rfl, J⟩))))))))))
  refine br_f c (br_f e ?_)
  by_cases d0 : v1 = 0
  · exact br_t d0 (br_t d0 ⟨rfl, J⟩)
  by_cases d1 : v1 = 1
  · exact br_f d0 (br_t d1 (br_f d0 (br_t d1 ⟨rfl, J⟩)))
  by_cases d2 : v1 = 2
  · exact br_f d0 (br_f d1 (br_t d2 (br_f d0 (br_f d1 (br_t d2 ⟨rfl, J⟩)))))
  by_cases d3 : v1 = 3
  · exact br_f d0 (br_f d1 (br_f d2 (br_t d3 (br_f d0 (br_f d1 (br_f d2 (br_t d3 ⟨rfl, J⟩)))))))
  by_cases d4 : v1 = 4
  · exact br_f d0 (br_f d1 (br_f d2 (br_f d3 (br_t d4 (br_f d0 (br_f d1 (br_f d2 (br_f d3 (br_t d4 ⟨rfl, J⟩)))))))))
  by_cases d5 : v1 = 5
  · exact br_f d0 (br_f d1 (br_f d2 (br_f d3 (br_f d4 (br_t d5 (br_f d0 (br_f d1 (br_f d2 (br_f d3 (br_f d4 (br_t d5 ⟨rfl, J⟩)))))))))))
  by_cases d6 : v1 = 6
  · exact br_f d0 (br_f d1 (br_f d2 (br_f d3 (br_f d4 (br_f d5 (br_t d6 (br_f d0 (br_f d1 (br_f d2 (br_f d3 (br_f d4 (br_f d5 (br_t d6 ⟨rfl, J⟩)))))))))))))
  by_cases d7 : v1 = 7
  · exact br_f d0 (br_f d1 (br_f d2 (br_f d3 (br_f d4 (br_f d5 (br_f d6 (br_t d7 (br_f d0 (br_f d1 (br_f d2 (br_f d3 (br_f d4 (br_f d5 (br_f d6 (br_t d7 ⟨rfl, J⟩)))))))))))))))
  by_cases d8 : v1 = 8
  · exact br_f d0 (br_f d1 (br_f d2 (br_f d3 (br_f d4 (br_f d5 (br_f d6 (br_f d7 (br_t d8 (br_f d0 (br_f d1 (br_f d2 (br_f d3 (br_f d4 (br_f d5 (br_f d6 (br_f d7 (br_t d8 ⟨rfl, J⟩)))))))))))))))))
  exfalso
  obtain ⟨j, hj, rfl⟩ := nI_of2 (M := 8) (n := 8) (by decide) c (Int32.not_lt.mp e)
  have h : j = 0 ∨ j = 1 ∨ j = 2 ∨ j = 3 ∨ j = 4 ∨ j = 5 ∨ j = 6 ∨ j = 7 ∨ j = 8 := by omega
  rcases h with rfl | rfl | rfl | rfl | rfl | rfl | rfl | rfl | rfl
  · exact d0 rfl
  · exact d1 rfl
  · exact d2 rfl
  · exact d3 rfl
  · exact d4 rfl
  · exact d5 rfl
  · exact d6 rfl
  · exact d7 rfl
  · exact d8 rfl
end ZQN
