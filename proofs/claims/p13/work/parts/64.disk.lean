/-! ===== what disk answers ===== -/
section DK9
variable {R nd b : Nat} {g : GS} {t : MS}
theorem nI_nn {q : Nat} (h : q ≤ 2000) : nI q = 0 ∨ 0 < nI q := by
  rcases Nat.eq_zero_or_pos q with e | e
  · rw [e]; exact Or.inl rfl
  · exact Or.inr (Int32.not_le.mp (nI_nle e (by omega)))
/-- a backup's sequence is 0 or above 0 -/
theorem bk_nn (h : INV R nd b g t) (hd : DAT R nd b g t) {d : Nat} (hdn : d < nd) (h10 : g.2.1 10 d = 0) : g.2.1 9 d = 0 ∨ 0 < g.2.1 9 d := by
  by_cases c : g.2.1 0 d = 0
  · exact Or.inl (hd.2.1 d hdn h10 c)
  · have lv : lvD nd g d := ⟨hdn, h10, c⟩
    rcases h with h | h
    · obtain ⟨S, N, M, F, X, bd, -, -, -, -, hx, -⟩ := hd.2.2.1 h.2.1
      obtain ⟨q, q1, q2⟩ := hx.2.2.2.2 d lv
      rw [q2]
      exact nI_nn (by have := bd.2.1; omega)
    · rcases hd.2.2.2 h.2.1 with ⟨S, N, M, F, bd, -, hx⟩ | ⟨S, N, M, F, X, bd, -, -, hx, -⟩
      · obtain ⟨q, q1, q2⟩ := hx.2.2.2 d lv
        rw [q2]
        exact nI_nn (by have := bd.2.1; omega)
      · obtain ⟨q, q1, q2⟩ := hx.2.2.2 d lv
        rw [q2]
        exact nI_nn (by have := bd.2.1; omega)
theorem val_disk (hn : 3 ≤ nd ∧ nd ≤ 10) (hR : 2 ≤ R ∧ R ≤ 48) (hb : b ≤ 1000) (h : INV R nd b g t) (hdt : DAT R nd b g t) (x w : Int32) : gf_4_disk R nd g x w = (mf_disk R nd t x w).1 := by
  have hB := h.bi
  unfold gf_4_disk mf_disk
  by_cases c0 : x < 0
  · rw [if_pos c0, if_pos (gp_there0.mpr (Or.inl c0))]
  · rw [if_neg c0]
    by_cases c1 : x < nI nd
    · rw [if_pos c1, if_neg (by rw [gp_there0]; intro q; rcases q with q | q; exact c0 q; exact Int32.not_lt.mpr q c1)]
      obtain ⟨d, hd, rfl⟩ := vp_in_of (ix_lt c0 c1 (Nat.le_refl nd) (by omega)) (by omega)
      rw [nI_clamp (by omega)]
      obtain ⟨a1, a2, a3, a4, a5, a6, a7, a8⟩ := hB.1.2.1 d hd
      have spe : (if gf_4_isSpare R nd g (nI d) = 0 then (0 : Int32) else 1) = (if t.1 3 ≤ nI d then ((1 : Int32), si t 0 0) else (0, si t 0 0)).1 := by
        unfold gf_4_isSpare
        rw [hB.1.1.2.2.2.2.2.2.2.1]
        by_cases z : nI d < t.1 3
        · rw [if_pos z, if_pos rfl, if_neg (Int32.not_le.mpr z)]
        · rw [if_neg z, if_neg (show ¬ (1 : Int32) = 0 by decide), if_pos (Int32.not_lt.mp z)]
      have bl : g.2.1 10 d = 0 → (if gf_0_isBlank_b R nd g d = 0 then (1 : Int32) else 0) = (if t.2.1 9 d ≤ 0 then ((0 : Int32), si t 0 0) else (1, si t 0 0)).1 := by
        intro z10
        have a9 := bk_nn h hdt hd z10
        unfold gf_0_isBlank_b
        rw [a7] at a9 ⊢
        rcases a9 with z | z
        · rw [if_pos z, if_neg (show ¬ (1 : Int32) = 0 by decide), if_pos (show t.2.1 9 d ≤ 0 by rw [z]; decide)]
        · rw [if_neg (pos0 z), if_pos rfl, if_neg (Int32.not_le.mpr z)]
      have cnd : gf_1_condition_d R nd g d = t.2.1 0 d := by
        unfold gf_1_condition_d gf_1_isRebuilding_d
        rw [a1]
        rcases hB.1.2.2.1 d hd (by omega) with ⟨s1, s2⟩ | ⟨s1, s2, s3⟩ | ⟨s1, s2, s3⟩
        · rw [s1, s2, if_neg (show ¬ (1 : Int32) = 0 by decide)]
        · rw [s1, s2, if_pos rfl, if_pos rfl, if_neg (pos0 s3), if_pos rfl]
        · rw [s1, s2, if_pos rfl, if_pos rfl, if_pos s3, if_neg (show ¬ (1 : Int32) = 0 by decide)]
      have fl : (t.2.1 0 d = 1 ∧ ¬ g.2.1 10 d = 0) ∨ (¬ t.2.1 0 d = 1 ∧ g.2.1 10 d = 0) := by
        rcases hB.1.2.2.1 d hd (by omega) with ⟨s1, s2⟩ | ⟨s1, s2, s3⟩ | ⟨s1, s2, s3⟩
        · exact Or.inl ⟨s1, by rw [s2]; decide⟩
        · exact Or.inr ⟨by rw [s1]; decide, s2⟩
        · exact Or.inr ⟨by rw [s1]; decide, s2⟩
      rw [spe, cnd, a8, a1, a5]
      rcases fl with ⟨f1, f2⟩ | ⟨f1, f2⟩
      · rw [if_pos f1]
        simp only [if_neg f2]
        by_cases w0 : w = 0
        · simp only [if_pos w0]
        · simp only [if_neg w0]
          by_cases w1 : w = 1
          · simp only [if_pos w1]
          · simp only [if_neg w1]
            by_cases w2 : w = 2
            · simp only [if_pos w2]
            · simp only [if_neg w2, ite_self]
              repeat' split
              all_goals rfl
      · rw [if_neg f1, bl f2]
        simp only [if_pos f2]
        by_cases w0 : w = 0
        · simp only [if_pos w0]
        · simp only [if_neg w0]
          by_cases w1 : w = 1
          · simp only [if_pos w1]
          · simp only [if_neg w1]
            by_cases w2 : w = 2
            · simp only [if_pos w2]
            · simp only [if_neg w2]
              by_cases w3 : w = 3
              · simp only [if_pos w3]
              · simp only [if_neg w3]
                by_cases w4 : w = 4
                · simp only [if_pos w4]
                · simp only [if_neg w4]
                  by_cases w5 : w = 5
                  · simp only [if_pos w5]
                  · simp only [if_neg w5]
    · rw [if_neg c1, if_pos (gp_there0.mpr (Or.inr (Int32.not_lt.mp c1)))]
end DK9
