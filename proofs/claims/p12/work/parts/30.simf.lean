/-! ===== a row that is moved ===== -/
section SIMF
variable {R nd : Nat} {g : GS} {t : MS} {U : Int32}
theorem sim_mr_l {M F : Nat} (hnd : nd ≤ 10) (hRR : R ≤ 48) (hM : M ≤ nd) (hF : F < R) : ∀ (j k j2 : Nat) (acc : Int64) (pd : Int32) (g1 : GS) (t1 : MS), k ≤ M → M < k + j → M < k + j2 → MM nd nd g1 t1 → g1.1 1 = 1 → (g1.1 3 = t1.1 7 ∧ t1.1 5 = U) → t1.1 3 = nI M → t1.1 4 = nI F →
    (∃ T : MS, mg_moves_2 R nd j k t1 = mg_moves_2 R nd 1 M T ∧ (gg_4_writeMovedRow_51 R nd (nI F) (nI M) j2 k acc pd g1).1 1 = 1 ∧ MM nd nd (gg_4_writeMovedRow_51 R nd (nI F) (nI M) j2 k acc pd g1) T ∧ ((gg_4_writeMovedRow_51 R nd (nI F) (nI M) j2 k acc pd g1).1 3 = T.1 7 ∧ T.1 5 = U) ∧ Keep sPok aPok t1 T) ∨
    ((mg_moves_2 R nd j k t1).1 = 0 ∧ (gg_4_writeMovedRow_51 R nd (nI F) (nI M) j2 k acc pd g1).1 1 = 0 ∧ ((mg_moves_2 R nd j k t1).2.1 5 = 0 ∧ (mg_moves_2 R nd j k t1).2.1 7 = 0) ∧ MM nd nd (gg_4_writeMovedRow_51 R nd (nI F) (nI M) j2 k acc pd g1) (mg_moves_2 R nd j k t1).2 ∧ Keep sPok aPok t1 (mg_moves_2 R nd j k t1).2) := by
  intro j
  induction j with
  | zero => intro k j2 acc pd g1 t1 h1 h2; omega
  | succ j ih =>
    intro k j2 acc pd g1 t1 h1 h2 h2' h hu h3 hm hf
    cases j2 with
    | zero => omega
    | succ j2 =>
      by_cases c : nI M ≤ nI k
      · have hk : k = M := by have := ndle c (by omega); omega
        subst hk
        rw [gg_4_writeMovedRow_51, if_pos c]
        refine Or.inl ⟨t1, ?_, hu, h, h3, Keep.rf⟩
        rw [mg_moves_2, mg_moves_2, hm, if_pos c, if_pos c]
      · have hk : k < M := nd_lt c (by omega)
        have e1 : ∃ v, gg_4_writeMovedRow_51 R nd (nI F) (nI M) (j2 + 1) k acc pd g1 = gg_4_writeMovedRow_51 R nd (nI F) (nI M) j2 (k + 1) acc pd (gf_4_writeBlock R nd g1 (nI k) (nI F) v) := by
          rw [gg_4_writeMovedRow_51, if_neg c]
          repeat' split
          all_goals exact ⟨_, rfl⟩
        obtain ⟨v, e1⟩ := e1
        have e2 : mg_moves_2 R nd (j + 1) k t1 = if (mf_block R nd t1 (nI k) (nI F)).1 = 0 then (0, (mf_block R nd t1 (nI k) (nI F)).2) else mg_moves_2 R nd j (k + 1) (mf_block R nd t1 (nI k) (nI F)).2 := by
          rw [mg_moves_2, hm, if_neg c, hf]
        rw [e1, e2]
        have kp := mf_block_keep (R := R) (nd := nd) t1 (nI k) (nI F)
        rcases sim_wb (v := v) hnd hRR (show k < nd by omega) (by omega) hF h hu h3 with ⟨d1, d2, d3, d4⟩ | ⟨d1, d2, d3, d4⟩
        · rw [d1, if_neg (show ¬ (1 : Int32) = 0 by decide)]
          rcases ih (k + 1) j2 acc pd _ _ (by omega) (by omega) (by omega) d3 d2 d4 ((kp.1 3 (by decide)).trans hm) ((kp.1 4 (by decide)).trans hf) with ⟨T, b1, b2, b3, b4, b5⟩ | ⟨b1, b2, b3, b4, b5⟩
          · exact Or.inl ⟨T, b1, b2, b3, b4, kp.tr b5⟩
          · exact Or.inr ⟨b1, b2, b3, b4, kp.tr b5⟩
        · rw [d1, if_pos rfl, dn_mr_l _ _ _ _ _ d2]
          exact Or.inr ⟨rfl, d2, d3, d4, kp⟩
theorem mr_acc {row m0 : Int32} : ∀ (j k : Nat) (acc : Int64) (pd : Int32) (g1 : GS), k ≤ 10 → 10 < k + j → ∃ a2, gg_4_writeMovedRow_12 R nd row m0 j k acc pd g1 = gg_4_writeMovedRow_51 R nd row m0 (m0.toNatClampNeg + 1) 0 a2 pd g1 := by
  intro j
  induction j with
  | zero => intro k acc pd g1 h1 h2; omega
  | succ j ih =>
    intro k acc pd g1 h1 h2
    rw [gg_4_writeMovedRow_12]
    by_cases c0 : m0 - 1 ≤ nI k
    · rw [if_pos c0]; exact ⟨acc, rfl⟩
    · rw [if_neg c0]
      by_cases c : nI 10 ≤ nI k
      · rw [if_pos c]; exact ⟨acc, rfl⟩
      · have hk : k < 10 := nd_lt c (by omega)
        rw [if_neg c]
        exact ih (k + 1) _ pd g1 (by omega) (by omega)
theorem mr_eq {row m0 : Int32} : ∃ a2, gf_4_writeMovedRow R nd g row m0 = gg_4_writeMovedRow_51 R nd row m0 (m0.toNatClampNeg + 1) 0 a2 (gf_4_parityDisk R nd g m0 row) g := by
  unfold gf_4_writeMovedRow
  exact mr_acc 11 0 0 _ g (by omega) (by omega)
theorem mr_keep_l {row m0 : Int32} (i : Nat) (h1 : ¬ i = 1) (h2 : ¬ i = 2) (h5 : ¬ i = 5) (h7 : ¬ i = 7) : ∀ (j k : Nat) (acc : Int64) (pd : Int32) (g1 : GS), (gg_4_writeMovedRow_51 R nd row m0 j k acc pd g1).1 i = g1.1 i := by
  intro j
  induction j with
  | zero => intro k acc pd g1; rfl
  | succ j ih =>
    intro k acc pd g1
    rw [gg_4_writeMovedRow_51]
    repeat' split
    all_goals first | rfl | exact (ih _ _ _ _).trans (wb_keep i h1 h2 h5 h7)
theorem nI_inj {a b : Nat} (ha : a < 2 ^ 31) (hb : b < 2 ^ 31) (h : nI a = nI b) : a = b := by
  have h1 := nI_toInt ha
  rw [h, nI_toInt hb] at h1
  omega
theorem sim_moves {N M F : Nat} (hnd : nd ≤ 10) (hRR : R ≤ 48) (hM : M ≤ nd) (hF : F < R) (h : MM nd nd g t) (hu : g.1 1 = 1) (h3 : g.1 3 = t.1 7 ∧ t.1 5 = U) (hs0 : 0 < t.1 1 + 1) (hn : t.1 2 = nI N) (hm : t.1 3 = nI M) (hf : t.1 4 = nI F) :
    ((mf_moves R nd t).1 = (if F + 1 = R then 2 else 1) ∧ (gf_4_moveRow R nd g).1 1 = 1 ∧ MM nd nd (gf_4_moveRow R nd g) (mf_moves R nd t).2 ∧ ((gf_4_moveRow R nd g).1 3 = (mf_moves R nd t).2.1 7 ∧ (mf_moves R nd t).2.1 5 = U)) ∨
    ((mf_moves R nd t).1 = 0 ∧ (gf_4_moveRow R nd g).1 1 = 0 ∧ ((mf_moves R nd t).2.1 5 = 0 ∧ (mf_moves R nd t).2.1 7 = 0) ∧ MM nd nd (gf_4_moveRow R nd g) (mf_moves R nd t).2) := by
  have g9 : g.1 9 = nI N := h.1.2.2.2.2.2.2.1.trans hn
  have g10 : g.1 10 = nI M := h.1.2.2.2.2.2.2.2.1.trans hm
  have g11 : g.1 11 = nI F := h.1.2.2.2.2.2.2.2.2.trans hf
  obtain ⟨a2, e⟩ := mr_eq (R := R) (nd := nd) (g := g) (row := nI F) (m0 := nI M)
  have hc : (nI M).toNatClampNeg = M := nI_clamp (by omega)
  rw [hc] at e
  have key := sim_mr_l (R := R) hnd hRR hM hF 11 0 (M + 1) a2 (gf_4_parityDisk R nd g (nI M) (nI F)) g t (by omega) (by omega) (by omega) h hu h3 hm hf
  rw [← e] at key
  have w9 : (gf_4_writeMovedRow R nd g (nI F) (nI M)).1 9 = nI N := by rw [e, mr_keep_l 9 (by decide) (by decide) (by decide) (by decide)]; exact g9
  unfold gf_4_moveRow mf_moves
  rw [g11, g10, w9]
  rcases key with ⟨T, b1, b2, b3, b4, b5⟩ | ⟨b1, b2, b3, b4, b5⟩
  · have T1 : T.1 1 = t.1 1 := b5.1 1 (by decide)
    have T2 : T.1 2 = nI N := (b5.1 2 (by decide)).trans hn
    have T3 : T.1 3 = nI M := (b5.1 3 (by decide)).trans hm
    have T4 : T.1 4 = nI F := (b5.1 4 (by decide)).trans hf
    rw [b1, mg_moves_2, T3, T4, T2, if_pos (Int32.le_refl _), nI_1]
    by_cases c : F + 1 = R
    · rw [if_pos (show nI (F + 1) = nI R by rw [c]), if_pos (show nI R ≤ nI (F + 1) by rw [c]; exact Int32.le_refl _), if_pos c]
      rcases sim_sets (R := R) (n0 := nI M) (m0 := nI M) (f := 0) hnd (jo_m1 hnd) b3 b2 b4 (by rw [T1]; exact hs0) with ⟨d1, d2, d3, d4⟩ | ⟨d1, d2, d3, d4⟩
      · rw [d1, if_neg (show ¬ (1 : Int32) = 0 by decide), if_neg (by rw [d2]; decide)]
        refine Or.inl ⟨rfl, d2, ?_, d4⟩
        obtain ⟨⟨s1, s2, s3, s4, s5, s6, s7, s8, s9⟩, r⟩ := d3
        refine ⟨?_, r⟩
        unfold sE
        simp [gsi, si, va_up, s1, s2, s3, s4, s5, s6, s7, s8, s9]
      · rw [d1, if_pos rfl, if_pos d2]
        exact Or.inr ⟨rfl, d2, d3, d4⟩
    · have c1 : ¬ nI (F + 1) = nI R := fun q => c (nI_inj (by omega) (by omega) q)
      have c2 : ¬ nI R ≤ nI (F + 1) := nI_ge (by omega) (by omega)
      rw [if_neg c1, if_neg c2, if_neg c]
      rcases sim_sets (R := R) (n0 := nI N) (m0 := nI M) (f := nI (F + 1)) hnd (jo_m1 hnd) b3 b2 b4 (by rw [T1]; exact hs0) with ⟨d1, d2, d3, d4⟩ | ⟨d1, d2, d3, d4⟩
      · rw [d1, if_neg (show ¬ (1 : Int32) = 0 by decide), if_neg (by rw [d2]; decide)]
        refine Or.inl ⟨rfl, d2, ?_, d4⟩
        obtain ⟨⟨s1, s2, s3, s4, s5, s6, s7, s8, s9⟩, r⟩ := d3
        refine ⟨?_, r⟩
        unfold sE
        simp [gsi, si, va_up, s1, s2, s3, s4, s5, s6, s7, s8, s9]
      · rw [d1, if_pos rfl, if_pos d2]
        exact Or.inr ⟨rfl, d2, d3, d4⟩
  · rw [b1]
    simp only [dn_set b2, if_pos b2, ite_self]
    exact Or.inr ⟨trivial, b2, b3, b4⟩
end SIMF
