/-! ===== the calls: cut, fail, replace, add, grow ===== -/
section SIMK
variable {R nd b : Nat} {g : GS} {t : MS}
theorem op_cut (h : INV R nd b g t) (x : Int32) : INV R nd (b + 1) (gf_4_cut R nd g x) (mf_cut R nd t x) := by
  have key : ∀ v : Int32, INV R nd (b + 1) (gsi g 2 v) (si (si t 0 0) 6 v) := by
    intro v
    have hm : BI R nd b g t → BI R nd (b + 1) (gsi g 2 v) (si (si t 0 0) 6 v) := by
      intro hB
      obtain ⟨⟨⟨s1, s2, s3, s4, s5, s6, s7, s8, s9⟩, r⟩, q⟩ := hB.mono
      exact ⟨⟨⟨rfl, s2, s3, s4, s5, s6, s7, s8, s9⟩, r⟩, q⟩
    rcases h with ⟨h1, h2⟩ | ⟨h1, h2⟩
    · exact Or.inl ⟨hm h1, h2⟩
    · exact Or.inr ⟨hm h1, h2⟩
  unfold gf_4_cut mf_cut
  split
  · exact key x
  · exact key (-1)
/-! the disk that isn't live -/
theorem gg_nl_v : ∀ (j k : Nat), k ≤ nd → nd < k + j → nd ≤ 10 → gg_4_diskNotLive_2 R nd g j k = -1 ∨ ∃ i, i < nd ∧ gg_4_diskNotLive_2 R nd g j k = nI i ∧ gf_1_isLive_d R nd g i = 0 := by
  intro j
  induction j with
  | zero => intro k h1 h2; omega
  | succ j ih =>
    intro k h1 h2 h3
    rw [gg_4_diskNotLive_2]
    by_cases c : nI nd ≤ nI k
    · rw [if_pos c]; exact Or.inl rfl
    · have hk : k < nd := nd_lt c (by omega)
      rw [if_neg c]
      by_cases c1 : gf_1_isLive_d R nd g k = 0
      · rw [if_pos c1]; exact Or.inr ⟨k, hk, rfl, c1⟩
      · rw [if_neg c1]; exact ih (k + 1) (by omega) (by omega) h3
theorem mg_nl_v : ∀ (j k : Nat) (out : Int32), k ≤ nd → nd < k + j → nd ≤ 10 → mg_notLive_4 R nd t j k out = out ∨ ∃ i, i < nd ∧ mg_notLive_4 R nd t j k out = nI i ∧ ¬ t.2.1 0 i = 0 := by
  intro j
  induction j with
  | zero => intro k out h1 h2; omega
  | succ j ih =>
    intro k out h1 h2 h3
    rw [mg_notLive_4]
    by_cases c : nI nd ≤ nI k
    · rw [if_pos c]; exact Or.inl rfl
    · have hk : k < nd := nd_lt c (by omega)
      rw [if_neg c]
      by_cases c1 : t.2.1 0 k = 0
      · rw [if_pos c1]; exact ih (k + 1) out (by omega) (by omega) h3
      · rw [if_neg c1]
        rcases ih (k + 1) (nI k) (by omega) (by omega) h3 with q | q
        · exact Or.inr ⟨k, hk, q, c1⟩
        · exact Or.inr q
/-- both name the same disk, or none -/
theorem nl_eq (hnd : nd ≤ 10) (hm : MM nd nd g t) (ho : ∀ i j, i < nd → j < nd → ¬ t.2.1 0 i = 0 → ¬ t.2.1 0 j = 0 → i = j) : (gf_4_diskNotLive R nd g = -1 ∧ mf_notLive R nd t = -1 ∧ ∀ i, i < nd → t.2.1 0 i = 0) ∨ ∃ i, i < nd ∧ gf_4_diskNotLive R nd g = nI i ∧ mf_notLive R nd t = nI i ∧ ¬ t.2.1 0 i = 0 := by
  by_cases c : ∀ i, i < nd → t.2.1 0 i = 0
  · refine Or.inl ⟨(gf_nl_iff hnd).mpr fun i hi q => ?_, (mf_notLive_iff hnd).mpr c, c⟩
    exact (live_d (hm.2.1 i hi) (hm.2.2.1 i hi (by omega))).mp q (c i hi)
  · refine Or.inr ?_
    have m1 : ¬ mf_notLive R nd t = -1 := fun q => c ((mf_notLive_iff hnd).mp q)
    obtain ⟨i, hi, ei, li⟩ : ∃ i, i < nd ∧ mf_notLive R nd t = nI i ∧ ¬ t.2.1 0 i = 0 := (mg_nl_v (nd + 1) 0 (-1) (by omega) (by omega) hnd).resolve_left m1
    have g1 : ¬ gf_4_diskNotLive R nd g = -1 := fun q => c fun k hk => by
      by_cases z : t.2.1 0 k = 0
      · exact z
      · exact absurd ((live_d (hm.2.1 k hk) (hm.2.2.1 k hk (by omega))).mpr z) ((gf_nl_iff hnd).mp q k hk)
    obtain ⟨k, hk, ek, lk⟩ : ∃ i, i < nd ∧ gf_4_diskNotLive R nd g = nI i ∧ gf_1_isLive_d R nd g i = 0 := (gg_nl_v (nd + 1) 0 (by omega) (by omega) hnd).resolve_left g1
    have lk' := (live_d (hm.2.1 k hk) (hm.2.2.1 k hk (by omega))).mp lk
    have e := ho k i hk hi lk' li
    subst e
    exact ⟨k, hk, ek, ei, li⟩
theorem op_fail (hn : 3 ≤ nd ∧ nd ≤ 10) (h : INV R nd b g t) (x : Int32) : (gf_4_fail R nd g x).1 = (mf_fail R nd t x).1 ∧ INV R nd (b + 1) (gf_4_fail R nd g x).2 (mf_fail R nd t x).2 := by
  have hB := h.bi
  have hm := hB.1
  have nl := nl_eq (R := R) hn.2 (show MM nd nd g (si t 0 0) from hm) hB.2.2.2.2.2.1
  unfold gf_4_fail mf_fail
  by_cases c0 : x < 0
  · rw [if_pos c0, if_pos (gp_there0.mpr (Or.inl c0))]
    exact ⟨rfl, h.th⟩
  · rw [if_neg c0]
    by_cases c1 : nI nd ≤ x
    · rw [if_pos c1, if_pos (gp_there0.mpr (Or.inr c1))]
      exact ⟨rfl, h.th⟩
    · rw [if_neg c1, if_neg (by rw [gp_there0]; intro q; rcases q with q | q; exact c0 q; exact c1 q)]
      obtain ⟨d, hd, rfl⟩ := vp_in_of (ix_of c0 c1 (Nat.le_refl nd) (by omega)) (by omega)
      rcases nl with ⟨n1, n2, n3⟩ | ⟨i, hi, n1, n2, n3⟩
      · rw [if_pos n1, if_pos n2, nI_clamp (by omega)]
        refine ⟨rfl, ?_⟩
        have ne : ∀ e, e < nd → (ti (si t 0 0) 0 d 1).2.1 0 e = 0 → ¬ e = d ∧ t.2.1 0 e = 0 := by
          intro e he q
          by_cases z : e = d
          · subst z
            simp [ti, va_up] at q
          · refine ⟨z, n3 e he⟩
        have bi : BI R nd (b + 1) (gdi g 10 d 1) (ti (si t 0 0) 0 d 1) := by
          obtain ⟨b1, b2, b3, b4, b5, b6, b7, b8⟩ := hB.mono
          obtain ⟨m1, m2, m3, m4⟩ := b1
          refine ⟨⟨m1, fun e he => ?_, fun e he hz => ?_, fun e h1 h2 => by omega⟩, b2, fun e he q => b3 e he (ne e he q).2, fun e k he hk q1 q2 => b4 e k he hk (ne e he q1).2 (ne k hk q2).2, fun e k he hk q1 q2 q3 => b5 e k he hk (ne e he q1).2 (fun w => by rw [show t.2.1 0 k = 0 from n3 k hk] at w; exact absurd w (by decide)) q3, fun i j hi hj q1 q2 => ?_, b7, fun e he => ?_⟩
          · have := m2 e he
            unfold dE at this ⊢
            simpa [gdi, ti, si, va_up] using this
          · have := m3 e he hz
            unfold stE at this ⊢
            by_cases z : e = d
            · subst z
              exact Or.inl (by simp [gdi, ti, va_up])
            · simpa [gdi, ti, si, va_up, z] using this
          · have f : ∀ k, k < nd → ¬ (ti (si t 0 0) 0 d 1).2.1 0 k = 0 → k = d := by
              intro k hk q
              by_cases z : k = d
              · exact z
              · exact absurd (by simp [ti, si, va_up, z]; exact n3 k hk) q
            exact (f i hi q1).trans (f j hj q2).symm
          · have := b8 e he
            have z : ¬ e = d := by omega
            simpa [gdi, va_up, z] using this
        rcases h with ⟨h1, h2, h3, h4, h5, h6⟩ | ⟨h1, h2⟩
        · exact Or.inl ⟨bi, h2, h3, h4, h5, fun e he q => h6 e he (ne e he q).2⟩
        · exact Or.inr ⟨bi, h2⟩
      · rw [if_neg (by rw [n1]; exact nI_m1 (by omega)), if_neg (by rw [n2]; exact nI_m1 (by omega))]
        exact ⟨rfl, h.th⟩
/-! a new disk in its stead -/
theorem gdi_ne {k d e q : Nat} {v : Int32} (h : ¬ e = d) : (gdi g k d v).2.1 q e = g.2.1 q e := by
  by_cases hq : q = k
  · subst hq; simp [gdi, va_up, h]
  · simp [gdi, va_up, hq]
theorem gli_21 {k d i : Nat} {v : Int64} : (gli g k d i v).2.1 = g.2.1 := rfl
theorem renew_l {d : Nat} : ∀ (j k : Nat) (g1 : GS), k ≤ R → R < k + j → R ≤ 48 → (gg_1_renew_d_2 R nd d j k g1).1 = g1.1 ∧ ∀ q e, (gg_1_renew_d_2 R nd d j k g1).2.1 q e = if e = d ∧ q < 12 then 0 else g1.2.1 q e := by
  intro j
  induction j with
  | zero => intro k g1 h1 h2; omega
  | succ j ih =>
    intro k g1 h1 h2 h3
    rw [gg_1_renew_d_2]
    by_cases c : nI R ≤ nI k
    · rw [if_pos c]
      refine ⟨rfl, fun q e => ?_⟩
      unfold gf_2_erase_j gf_2_tell_j gf_3_tell_s
      by_cases ee : e = d
      · subst ee
        by_cases hq : q < 12
        · rw [if_pos ⟨rfl, hq⟩]
          rcases (show q = 0 ∨ q = 1 ∨ q = 2 ∨ q = 3 ∨ q = 4 ∨ q = 5 ∨ q = 6 ∨ q = 7 ∨ q = 8 ∨ q = 9 ∨ q = 10 ∨ q = 11 by omega) with rfl | rfl | rfl | rfl | rfl | rfl | rfl | rfl | rfl | rfl | rfl | rfl <;> simp [gdi, gli, va_up]
        · rw [if_neg (by omega)]
          simp [gdi, gli, va_up, show ¬ q = 0 by omega, show ¬ q = 1 by omega, show ¬ q = 2 by omega, show ¬ q = 3 by omega, show ¬ q = 4 by omega, show ¬ q = 5 by omega, show ¬ q = 6 by omega, show ¬ q = 7 by omega, show ¬ q = 8 by omega, show ¬ q = 9 by omega, show ¬ q = 10 by omega, show ¬ q = 11 by omega]
      · rw [if_neg (by omega)]
        simp only [gdi_ne ee, gli_21]
    · have hk : k < R := nd_lt c (by omega)
      rw [if_neg c]
      exact ih (k + 1) _ (by omega) (by omega) h3
theorem renew_eq {d : Nat} (hR : R ≤ 48) : (gf_1_renew_d R nd g d).1 = g.1 ∧ ∀ q e, (gf_1_renew_d R nd g d).2.1 q e = if e = d ∧ q < 12 then 0 else g.2.1 q e := renew_l _ _ _ (by omega) (by omega) hR
end SIMK
