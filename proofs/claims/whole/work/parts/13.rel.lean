section ZQM
/-- what both sides hold: at most 32 rows, flags are 0 or 1, a NULL is held as 0, the specification's ranges -/
def zq_Inv (C n : Nat) (O V N M Z : Nat → Int32) (R : Nat → Int64) (d md sk so ek eo : Int32) : Prop :=
  C ≤ 32 ∧ n ≤ C ∧ (∀ i, (N i = 0 ∨ N i = 1) ∧ (¬ N i = 0 → O i = 0)) ∧ (∀ i, (M i = 0 ∨ M i = 1) ∧ (¬ M i = 0 → V i = 0)) ∧ (∀ i, (Z i = 0 ∨ Z i = 1) ∧ (¬ Z i = 0 → R i = 0)) ∧ zq_Sp d md sk so ek eo
/-- the two states are the same table, results and specification; the class's work arrays are free -/
def i_Rel (_ : Nat) (u : SX) (v : SY) : Prop :=
  ∃ (C n : Nat) (d nl md ex sk so ek eo lf : Int32) (P O V N M : Nat → Int32) (R : Nat → Int64) (Z A F : Nat → Int32), u = (nI C, nI n, d, nl, md, ex, sk, so, ek, eo, lf, P, O, V, N, M, R, Z, A, F) ∧ v = (nI C, nI n, d, nl, md, ex, sk, so, ek, eo, lf, P, O, V, N, M, R, Z) ∧ zq_Inv C n O V N M Z R d md sk so ek eo
theorem i_up {k : Nat} {u : SX} {v : SY} (h : i_Rel k u v) : i_Rel (k + 5) u v := h
theorem zq_u2 {N O : Nat → Int32} {n : Nat} {b o : Int32} (h : ∀ i, (N i = 0 ∨ N i = 1) ∧ (¬ N i = 0 → O i = 0)) (hb : (b = 0 ∨ b = 1) ∧ (¬ b = 0 → o = 0)) : ∀ i, (upd N n b i = 0 ∨ upd N n b i = 1) ∧ (¬ upd N n b i = 0 → upd O n o i = 0) := by
  intro i
  unfold upd
  by_cases e : i = n
  · rw [if_pos e, if_pos e]; exact hb
  · rw [if_neg e, if_neg e]; exact h i
theorem zq_u3 {Z : Nat → Int32} {R : Nat → Int64} {n : Nat} (h : ∀ i, (Z i = 0 ∨ Z i = 1) ∧ (¬ Z i = 0 → R i = 0)) : ∀ i, (upd Z n 1 i = 0 ∨ upd Z n 1 i = 1) ∧ (¬ upd Z n 1 i = 0 → vp_updL R n 0 i = 0) := by
  intro i
  unfold upd vp_updL
  by_cases e : i = n
  · rw [if_pos e, if_pos e]; exact ⟨Or.inr rfl, fun _ => rfl⟩
  · rw [if_neg e, if_neg e]; exact h i
theorem zq_inv0 {C : Nat} (h : C ≤ 32) : zq_Inv C 0 (fun _ => 0) (fun _ => 0) (fun _ => 0) (fun _ => 0) (fun _ => 0) (fun _ => 0) 1 1 0 0 2 0 :=
  ⟨h, Nat.zero_le _, fun _ => ⟨Or.inl rfl, fun z => absurd rfl z⟩, fun _ => ⟨Or.inl rfl, fun z => absurd rfl z⟩, fun _ => ⟨Or.inl rfl, fun z => absurd rfl z⟩, Or.inr (Or.inl rfl), Or.inr rfl, Or.inl rfl, fun _ => rfl, Or.inr (Or.inl rfl), fun _ => rfl⟩
theorem i_vc0 (k0 : Int32) : wpX_init (fun u => wpY_init (fun v => i_Rel 1 u v) k0) k0 := by
  by_cases h8 : 8 ≤ k0
  · by_cases h32 : k0 ≤ 32
    · have h0 : ¬ k0 < 0 := fun z => absurd (Int32.lt_of_le_of_lt h8 z) (by decide)
      obtain ⟨C, hC, rfl⟩ := nI_of2 (M := 32) (n := 32) (by decide) h0 h32
      exact br_t h8 (br_t h32 (br_t h8 (br_t h32 ⟨C, 0, 1, 0, 1, 0, 0, 0, 2, 0, -1, (fun _ => 0), (fun _ => 0), (fun _ => 0), (fun _ => 0), (fun _ => 0), (fun _ => 0), (fun _ => 0), (fun _ => 0), (fun _ => 0), rfl, rfl, zq_inv0 (by omega)⟩)))
    · exact br_t h8 (br_f h32 (br_t h8 (br_f h32 ⟨32, 0, 1, 0, 1, 0, 0, 0, 2, 0, -1, (fun _ => 0), (fun _ => 0), (fun _ => 0), (fun _ => 0), (fun _ => 0), (fun _ => 0), (fun _ => 0), (fun _ => 0), (fun _ => 0), rfl, rfl, zq_inv0 (by omega)⟩)))
  · exact br_f h8 (br_f h8 ⟨8, 0, 1, 0, 1, 0, 0, 0, 2, 0, -1, (fun _ => 0), (fun _ => 0), (fun _ => 0), (fun _ => 0), (fun _ => 0), (fun _ => 0), (fun _ => 0), (fun _ => 0), (fun _ => 0), rfl, rfl, zq_inv0 (by omega)⟩)
theorem i_vc_capacity {k : Nat} {u : SX} {v : SY} (I : i_Rel k u v) (hk : k + 5 ≤ 2561) : wpX_capacity (fun r => wpY_capacity (fun r' => r' = r ∧ i_Rel (k + 5) u v) v) u := by
  have J := I
  obtain ⟨C, n, d, nl, md, ex, sk, so, ek, eo, lf, P, O, V, N, M, R, Z, A, F, rfl, rfl, hI⟩ := I
  exact ⟨rfl, J⟩
theorem i_vc_rowCount {k : Nat} {u : SX} {v : SY} (I : i_Rel k u v) (hk : k + 5 ≤ 2561) : wpX_rowCount (fun r => wpY_rowCount (fun r' => r' = r ∧ i_Rel (k + 5) u v) v) u := by
  have J := I
  obtain ⟨C, n, d, nl, md, ex, sk, so, ek, eo, lf, P, O, V, N, M, R, Z, A, F, rfl, rfl, hI⟩ := I
  exact ⟨rfl, J⟩
theorem i_vc_addRow {k : Nat} {u : SX} {v : SY} (I : i_Rel k u v) (hk : k + 5 ≤ 2561) (v1 : Int32) (v2 : Int32) (v3 : Int32) (v4 : Int32) : wpX_addRow (fun r u' => wpY_addRow (fun r' v' => r' = r ∧ i_Rel (k + 5) u' v') v v1 v2 v3 v4) u v1 v2 v3 v4 := by
  have J := I
  obtain ⟨C, n, d, nl, md, ex, sk, so, ek, eo, lf, P, O, V, N, M, R, Z, A, F, rfl, rfl, hI⟩ := I
  obtain ⟨hC, hn, i1, i2, i3, hS⟩ := hI
  by_cases h : n < C
  · have E : ∀ (b1 o' b2 w' : Int32), (((v4 &&& 1) = 0 ∧ b1 = 0 ∧ o' = v2) ∨ (¬ (v4 &&& 1) = 0 ∧ b1 = 1 ∧ o' = 0)) → (((v4 &&& 2) = 0 ∧ b2 = 0 ∧ w' = v3) ∨ (¬ (v4 &&& 2) = 0 ∧ b2 = 1 ∧ w' = 0)) → wpX_addRow (fun r u' => wpY_addRow (fun r' v' => r' = r ∧ i_Rel (k + 5) u' v') (nI C, nI n, d, nl, md, ex, sk, so, ek, eo, lf, P, O, V, N, M, R, Z) v1 v2 v3 v4) (nI C, nI n, d, nl, md, ex, sk, so, ek, eo, lf, P, O, V, N, M, R, Z, A, F) v1 v2 v3 v4 := by
      intro b1 o' b2 w' h1 h2
      have q1 : (b1 = 0 ∨ b1 = 1) ∧ (¬ b1 = 0 → o' = 0) := by
        rcases h1 with ⟨_, rfl, _⟩ | ⟨_, rfl, e⟩
        · exact ⟨Or.inl rfl, fun z => absurd rfl z⟩
        · exact ⟨Or.inr rfl, fun _ => e⟩
      have q2 : (b2 = 0 ∨ b2 = 1) ∧ (¬ b2 = 0 → w' = 0) := by
        rcases h2 with ⟨_, rfl, _⟩ | ⟨_, rfl, e⟩
        · exact ⟨Or.inl rfl, fun z => absurd rfl z⟩
        · exact ⟨Or.inr rfl, fun _ => e⟩
      exact zx_add hC h h1 h2 (zy_add hC h h1 h2 ⟨rfl, ⟨C, n + 1, d, nl, md, ex, sk, so, ek, eo, lf, upd P n v1, upd O n o', upd V n w', upd N n b1, upd M n b2, vp_updL R n 0, upd Z n 1, A, F, rfl, rfl, ⟨hC, h, zq_u2 i1 q1, zq_u2 i2 q2, zq_u3 i3, hS⟩⟩⟩)
    by_cases g1 : (v4 &&& 1) = 0
    · by_cases g2 : (v4 &&& 2) = 0
      · exact E 0 v2 0 v3 (Or.inl ⟨g1, rfl, rfl⟩) (Or.inl ⟨g2, rfl, rfl⟩)
      · exact E 0 v2 1 0 (Or.inl ⟨g1, rfl, rfl⟩) (Or.inr ⟨g2, rfl, rfl⟩)
    · by_cases g2 : (v4 &&& 2) = 0
      · exact E 1 0 0 v3 (Or.inr ⟨g1, rfl, rfl⟩) (Or.inl ⟨g2, rfl, rfl⟩)
      · exact E 1 0 1 0 (Or.inr ⟨g1, rfl, rfl⟩) (Or.inr ⟨g2, rfl, rfl⟩)
  · exact br_f (nI_nlt (by omega) (by omega)) (br_t (nI_le (by omega) (by omega)) ⟨rfl, J⟩)
theorem i_vc_clear {k : Nat} {u : SX} {v : SY} (I : i_Rel k u v) (hk : k + 5 ≤ 2561) : wpX_clear (fun u' => wpY_clear (fun v' => i_Rel (k + 5) u' v') v) u := by
  obtain ⟨C, n, d, nl, md, ex, sk, so, ek, eo, lf, P, O, V, N, M, R, Z, A, F, rfl, rfl, hI⟩ := I
  obtain ⟨hC, hn, i1, i2, i3, hS⟩ := hI
  exact ⟨C, 0, d, nl, md, ex, sk, so, ek, eo, -1, P, O, V, N, M, R, Z, A, F, rfl, rfl, ⟨hC, Nat.zero_le _, i1, i2, i3, hS⟩⟩
theorem i_vc_setOrder {k : Nat} {u : SX} {v : SY} (I : i_Rel k u v) (hk : k + 5 ≤ 2561) (v1 : Int32) (v2 : Int32) : wpX_setOrder (fun r u' => wpY_setOrder (fun r' v' => r' = r ∧ i_Rel (k + 5) u' v') v v1 v2) u v1 v2 := by
  have J := I
  obtain ⟨C, n, d, nl, md, ex, sk, so, ek, eo, lf, P, O, V, N, M, R, Z, A, F, rfl, rfl, hI⟩ := I
  obtain ⟨hC, hn, i1, i2, i3, s1, s2, s3, s4, s5, s6⟩ := hI
  by_cases h0 : v1 < 0
  · exact br_t h0 (br_t h0 ⟨rfl, J⟩)
  by_cases h2 : v1 ≤ 2
  · have h2' : ¬ 2 < v1 := Int32.not_lt.mpr h2
    by_cases g0 : v2 < 0
    · exact br_f h0 (br_t h2 (br_t g0 (br_f h0 (br_f h2' (br_t g0 ⟨rfl, J⟩)))))
    by_cases g1 : v2 ≤ 1
    · exact br_f h0 (br_t h2 (br_f g0 (br_t g1 (br_f h0 (br_f h2' (br_f g0 (br_t g1 ⟨rfl, ⟨C, n, v1, v2, md, ex, sk, so, ek, eo, lf, P, O, V, N, M, R, Z, A, F, rfl, rfl, ⟨hC, hn, i1, i2, i3, zq_r2 h0 h2, s2, s3, s4, s5, s6⟩⟩⟩)))))))
    · exact br_f h0 (br_t h2 (br_f g0 (br_f g1 (br_f h0 (br_f h2' (br_f g0 (br_f g1 ⟨rfl, J⟩)))))))
  · exact br_f h0 (br_f h2 (br_f h0 (br_t (Int32.not_le.mp h2) ⟨rfl, J⟩)))
theorem i_vc_setMode {k : Nat} {u : SX} {v : SY} (I : i_Rel k u v) (hk : k + 5 ≤ 2561) (v1 : Int32) (v2 : Int32) : wpX_setMode (fun r u' => wpY_setMode (fun r' v' => r' = r ∧ i_Rel (k + 5) u' v') v v1 v2) u v1 v2 := by
  have J := I
  obtain ⟨C, n, d, nl, md, ex, sk, so, ek, eo, lf, P, O, V, N, M, R, Z, A, F, rfl, rfl, hI⟩ := I
  obtain ⟨hC, hn, i1, i2, i3, s1, s2, s3, s4, s5, s6⟩ := hI
  by_cases h0 : v1 < 0
  · exact br_t h0 (br_t h0 ⟨rfl, J⟩)
  by_cases h2 : v1 ≤ 1
  · have h2' : ¬ 1 < v1 := Int32.not_lt.mpr h2
    by_cases g0 : v2 < 0
    · exact br_f h0 (br_t h2 (br_t g0 (br_f h0 (br_f h2' (br_t g0 ⟨rfl, J⟩)))))
    by_cases g1 : v2 ≤ 3
    · exact br_f h0 (br_t h2 (br_f g0 (br_t g1 (br_f h0 (br_f h2' (br_f g0 (br_t g1 ⟨rfl, ⟨C, n, d, nl, v1, v2, sk, so, ek, eo, lf, P, O, V, N, M, R, Z, A, F, rfl, rfl, ⟨hC, hn, i1, i2, i3, s1, zq_r1 h0 h2, s3, s4, s5, s6⟩⟩⟩)))))))
    · exact br_f h0 (br_t h2 (br_f g0 (br_f g1 (br_f h0 (br_f h2' (br_f g0 (br_f g1 ⟨rfl, J⟩)))))))
  · exact br_f h0 (br_f h2 (br_f h0 (br_t (Int32.not_le.mp h2) ⟨rfl, J⟩)))
theorem i_vc_setStart {k : Nat} {u : SX} {v : SY} (I : i_Rel k u v) (hk : k + 5 ≤ 2561) (v1 : Int32) (v2 : Int32) : wpX_setStart (fun r u' => wpY_setStart (fun r' v' => r' = r ∧ i_Rel (k + 5) u' v') v v1 v2) u v1 v2 := by
  have J := I
  obtain ⟨C, n, d, nl, md, ex, sk, so, ek, eo, lf, P, O, V, N, M, R, Z, A, F, rfl, rfl, hI⟩ := I
  obtain ⟨hC, hn, i1, i2, i3, s1, s2, s3, s4, s5, s6⟩ := hI
  by_cases h0 : v1 < 0
  · exact br_t h0 (br_t h0 ⟨rfl, J⟩)
  by_cases h3 : v1 ≤ 3
  · cases t : zq_to v1
    · have t' := zq_to_f t
      exact br_f h0 (br_t h3 (zx_to (zq_brf t (zx_to (zq_brf t (br_f h0 (br_t h3 (br_f t'.1 (br_f t'.2 (br_t rfl (br_t rfl ⟨rfl, ⟨C, n, d, nl, md, ex, v1, 0, ek, eo, lf, P, O, V, N, M, R, Z, A, F, rfl, rfl, ⟨hC, hn, i1, i2, i3, s1, s2, zq_r3 h0 h3, fun _ => rfl, s5, s6⟩⟩⟩)))))))))))
    · by_cases p : 0 ≤ v2
      · refine br_f h0 (br_t h3 (zx_to (zq_brt t (br_t p (zx_to (zq_brt t (br_f h0 (br_t h3 ?_))))))))
        rcases zq_to_t t with e | e
        · exact br_t e (br_f zq_n10 (br_t p (br_f zq_n10 ⟨rfl, ⟨C, n, d, nl, md, ex, v1, v2, ek, eo, lf, P, O, V, N, M, R, Z, A, F, rfl, rfl, ⟨hC, hn, i1, i2, i3, s1, s2, zq_r3 h0 h3, fun z => absurd (e.symm.trans z) (by decide), s5, s6⟩⟩⟩)))
        · exact br_f (by rw [e]; decide) (br_t e (br_f zq_n10 (br_t p (br_f zq_n10 ⟨rfl, ⟨C, n, d, nl, md, ex, v1, v2, ek, eo, lf, P, O, V, N, M, R, Z, A, F, rfl, rfl, ⟨hC, hn, i1, i2, i3, s1, s2, zq_r3 h0 h3, fun z => absurd (e.symm.trans z) (by decide), s5, s6⟩⟩⟩))))
      · refine br_f h0 (br_t h3 (zx_to (zq_brt t (br_f p (br_f h0 (br_t h3 ?_))))))
        rcases zq_to_t t with e | e
        · exact br_t e (br_f zq_n10 (br_f p ⟨rfl, J⟩))
        · exact br_f (by rw [e]; decide) (br_t e (br_f zq_n10 (br_f p ⟨rfl, J⟩)))
  · exact br_f h0 (br_f h3 (br_f h0 (br_f h3 ⟨rfl, J⟩)))
theorem i_vc_setEnd {k : Nat} {u : SX} {v : SY} (I : i_Rel k u v) (hk : k + 5 ≤ 2561) (v1 : Int32) (v2 : Int32) : wpX_setEnd (fun r u' => wpY_setEnd (fun r' v' => r' = r ∧ i_Rel (k + 5) u' v') v v1 v2) u v1 v2 := by
  have J := I
  obtain ⟨C, n, d, nl, md, ex, sk, so, ek, eo, lf, P, O, V, N, M, R, Z, A, F, rfl, rfl, hI⟩ := I
  obtain ⟨hC, hn, i1, i2, i3, s1, s2, s3, s4, s5, s6⟩ := hI
  by_cases h0 : v1 < 1
  · exact br_t h0 (br_t h0 ⟨rfl, J⟩)
  by_cases h3 : v1 ≤ 4
  · cases t : zq_to v1
    · have t' := zq_to_f t
      exact br_f h0 (br_t h3 (zx_to (zq_brf t (zx_to (zq_brf t (br_f h0 (br_t h3 (br_f t'.1 (br_f t'.2 (br_t rfl (br_t rfl ⟨rfl, ⟨C, n, d, nl, md, ex, sk, so, v1, 0, lf, P, O, V, N, M, R, Z, A, F, rfl, rfl, ⟨hC, hn, i1, i2, i3, s1, s2, s3, s4, zq_r4 h0 h3, fun _ => rfl⟩⟩⟩)))))))))))
    · by_cases p : 0 ≤ v2
      · refine br_f h0 (br_t h3 (zx_to (zq_brt t (br_t p (zx_to (zq_brt t (br_f h0 (br_t h3 ?_))))))))
        rcases zq_to_t t with e | e
        · exact br_t e (br_f zq_n10 (br_t p (br_f zq_n10 ⟨rfl, ⟨C, n, d, nl, md, ex, sk, so, v1, v2, lf, P, O, V, N, M, R, Z, A, F, rfl, rfl, ⟨hC, hn, i1, i2, i3, s1, s2, s3, s4, zq_r4 h0 h3, fun z => absurd (e.symm.trans z) (by decide)⟩⟩⟩)))
        · exact br_f (by rw [e]; decide) (br_t e (br_f zq_n10 (br_t p (br_f zq_n10 ⟨rfl, ⟨C, n, d, nl, md, ex, sk, so, v1, v2, lf, P, O, V, N, M, R, Z, A, F, rfl, rfl, ⟨hC, hn, i1, i2, i3, s1, s2, s3, s4, zq_r4 h0 h3, fun z => absurd (e.symm.trans z) (by decide)⟩⟩⟩))))
      · refine br_f h0 (br_t h3 (zx_to (zq_brt t (br_f p (br_f h0 (br_t h3 ?_))))))
        rcases zq_to_t t with e | e
        · exact br_t e (br_f zq_n10 (br_f p ⟨rfl, J⟩))
        · exact br_f (by rw [e]; decide) (br_t e (br_f zq_n10 (br_f p ⟨rfl, J⟩)))
  · exact br_f h0 (br_f h3 (br_f h0 (br_f h3 ⟨rfl, J⟩)))
end ZQM
