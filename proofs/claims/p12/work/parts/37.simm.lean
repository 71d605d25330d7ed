/-! ===== the calls: add, grow ===== -/
section SIMM
variable {R nd b : Nat} {g : GS} {t : MS}
theorem op_add (hn : 3 ≤ nd ∧ nd ≤ 10) (hR : 2 ≤ R ∧ R ≤ 48) (hb : b ≤ 1000) (h : INV R nd b g t) (y : Int64) :
    mf_thrown R (mf_add R nd t).2.1 (mf_add R nd t).2.2 = (lr_add R nd g y).1 ∧ ((lr_add R nd g y).1 = 0 → (lr_add R nd g y).2.2.2 = ((mf_add R nd t).1).toInt64) ∧ (lr_add R nd g y).2.1 = (mf_add R nd t).2.1 ∧ (3 ≤ (mf_add R nd t).2.1 ∧ (mf_add R nd t).2.1 ≤ 10) ∧ INV R (mf_add R nd t).2.1 (b + 1) (lr_add R nd g y).2.2.1 (mf_add R nd t).2.2 := by
  unfold lr_add mf_add mf_thrown gf_4_add
  rcases h with h | h
  · obtain ⟨hB, hu, hu2, h3, ⟨B, hB1, hB2⟩, hh⟩ := id h
    have hU : ¬ g.1 1 = 0 := by rw [hu]; decide
    have hU2 : ¬ t.1 5 = 0 := by rw [hu2]; decide
    rw [if_neg hU, if_neg hU2]
    by_cases c : nd = 10
    · have c1 : nI nd = 10 := by rw [c]; rfl
      rw [if_pos c1, if_neg (by rw [c1]; decide)]
      exact ⟨rfl, fun _ => rfl, rfl, hn, INV.th (Or.inl h)⟩
    · have c1 : ¬ nI nd = 10 := fun q => c (nI_inj (b := 10) (by omega) (by decide) q)
      have c2 : nI nd < 10 := by
        rw [show (10 : Int32) = nI 10 from rfl]
        exact Int32.not_le.mp (nI_ge (show nd < 10 by omega) (by decide))
      rw [if_neg c1, if_pos c2]
      by_cases cp : t.1 6 = 0
      · obtain ⟨x1, x2, x3, x4⟩ := dead1 (R := R) hn.2 hb h cp
        rw [if_pos x2, if_pos x3]
        exact ⟨x4, fun _ => rfl, rfl, hn, x1⟩
      · rw [spend_ok hu (by rw [hB.1.1.1]; exact cp), lasts_ok (show ¬ (si t 0 0).1 6 = 0 from cp), if_neg (show ¬ (1 : Int32) = 0 by decide), if_neg (show ¬ (1 : Int32) = 0 by decide)]
        refine ⟨rfl, fun _ => rfl, rfl, ⟨by show 3 ≤ nd + 1; omega, by show nd + 1 ≤ 10; omega⟩, ?_⟩
        show INV R (nd + 1) (b + 1) (gf_1_takeSuper__d_h R nd (gsi (gsi g 2 (dec9 (g.1 2))) 5 (g.1 5 + 1)) nd) (mf_fresh R nd (si (si (si t 0 0) 6 (dec9 (t.1 6))) 9 ((si (si t 0 0) 6 (dec9 (t.1 6))).1 9 + 1)) (nI nd))
        have hc : (nI nd).toNatClampNeg = nd := nI_clamp (by omega)
        have tl0 : ∀ q e, (mf_fresh R nd (si (si (si t 0 0) 6 (dec9 (t.1 6))) 9 ((si (si t 0 0) 6 (dec9 (t.1 6))).1 9 + 1)) (nI nd)).2.1 q e = if e = nd then (if q = 0 ∨ q = 6 ∨ q = 9 then 0 else if q = 1 then 1 else if q = 2 then t.1 1 else if q = 3 then t.1 2 else if q = 4 then t.1 3 else if q = 5 then t.1 4 else t.2.1 q e) else t.2.1 q e := by
          intro q e
          unfold mf_fresh mf_tells
          rw [hc]
          by_cases ee : e = nd
          · subst ee
            by_cases a0 : q = 0
            · subst a0; simp [si, ti, va_up]
            · by_cases a1 : q = 1
              · subst a1; simp [si, ti, va_up]
              · by_cases a2 : q = 2
                · subst a2; simp [si, ti, va_up]
                · by_cases a3 : q = 3
                  · subst a3; simp [si, ti, va_up]
                  · by_cases a4 : q = 4
                    · subst a4; simp [si, ti, va_up]
                    · by_cases a5 : q = 5
                      · subst a5; simp [si, ti, va_up]
                      · by_cases a6 : q = 6
                        · subst a6; simp [si, ti, va_up]
                        · by_cases a9 : q = 9
                          · subst a9; simp [si, ti, va_up]
                          · simp [si, ti, va_up, a0, a1, a2, a3, a4, a5, a6, a9]
          · rw [if_neg ee]
            simp only [si_21, ti_ne ee]
        have T1 : ∀ z, ¬ z = 0 → ¬ z = 6 → ¬ z = 9 → (mf_fresh R nd (si (si (si t 0 0) 6 (dec9 (t.1 6))) 9 ((si (si t 0 0) 6 (dec9 (t.1 6))).1 9 + 1)) (nI nd)).1 z = t.1 z := by
          intro z h0 h6 h9
          simp [mf_fresh, mf_tells, si, ti, va_up, h0, h6, h9]
        have T6 : (mf_fresh R nd (si (si (si t 0 0) 6 (dec9 (t.1 6))) 9 ((si (si t 0 0) 6 (dec9 (t.1 6))).1 9 + 1)) (nI nd)).1 6 = dec9 (t.1 6) := rfl
        have T9 : (mf_fresh R nd (si (si (si t 0 0) 6 (dec9 (t.1 6))) 9 ((si (si t 0 0) 6 (dec9 (t.1 6))).1 9 + 1)) (nI nd)).1 9 = t.1 9 + 1 := rfl
        generalize mf_fresh R nd (si (si (si t 0 0) 6 (dec9 (t.1 6))) 9 ((si (si t 0 0) 6 (dec9 (t.1 6))).1 9 + 1)) (nI nd) = T at tl0 T1 T6 T9
        have g0 : ∀ z, ¬ z = 2 → ¬ z = 5 → (gsi (gsi g 2 (dec9 (g.1 2))) 5 (g.1 5 + 1)).1 z = g.1 z := fun z h2 h5 => by simp [gsi, va_up, h2, h5]
        have g02 : (gsi (gsi g 2 (dec9 (g.1 2))) 5 (g.1 5 + 1)).1 2 = dec9 (g.1 2) := rfl
        have g05 : (gsi (gsi g 2 (dec9 (g.1 2))) 5 (g.1 5 + 1)).1 5 = g.1 5 + 1 := rfl
        have gA9 : (gsi (gsi g 2 (dec9 (g.1 2))) 5 (g.1 5 + 1)).2.1 = g.2.1 := rfl
        generalize gsi (gsi g 2 (dec9 (g.1 2))) 5 (g.1 5 + 1) = G0 at g0 g02 g05 gA9
        obtain ⟨k5, k9, k10, k11⟩ := hB.2.2.2.2.2.2.2 nd (Nat.le_refl _)
        have gne : ∀ q e, ¬ e = nd → (gf_1_takeSuper__d_h R nd G0 nd).2.1 q e = g.2.1 q e := fun q e he => by
          unfold gf_1_takeSuper__d_h gf_3_copyFrom_s_h gf_3_tell_s
          simp only [gdi_ne he]
          rw [gA9]
        have gi : ∀ q, 4 ≤ q → q < 11 → (gf_1_takeSuper__d_h R nd G0 nd).2.1 q nd = g.2.1 q nd := fun q h4 h11 => by
          unfold gf_1_takeSuper__d_h gf_3_copyFrom_s_h gf_3_tell_s
          simp [gdi, va_up, show ¬ q = 11 by omega, show ¬ q = 0 by omega, show ¬ q = 1 by omega, show ¬ q = 2 by omega, show ¬ q = 3 by omega]
          rw [gA9]
        have gs : (gf_1_takeSuper__d_h R nd G0 nd).2.1 0 nd = g.1 8 ∧ (gf_1_takeSuper__d_h R nd G0 nd).2.1 1 nd = g.1 9 ∧ (gf_1_takeSuper__d_h R nd G0 nd).2.1 2 nd = g.1 10 ∧ (gf_1_takeSuper__d_h R nd G0 nd).2.1 3 nd = g.1 11 ∧ (gf_1_takeSuper__d_h R nd G0 nd).2.1 11 nd = 1 := by
          unfold gf_1_takeSuper__d_h gf_3_copyFrom_s_h gf_3_tell_s
          rw [g0 8 (by decide) (by decide), g0 9 (by decide) (by decide), g0 10 (by decide) (by decide), g0 11 (by decide) (by decide)]
          refine ⟨?_, ?_, ?_, ?_, ?_⟩
          · simp [gdi, va_up]
          · simp [gdi, va_up]
          · simp [gdi, va_up]
          · simp [gdi, va_up]
          · have : G0.2.1 11 nd = 0 := by rw [gA9]; exact k11
            simp [gdi, va_up, this]
        have gA : (gf_1_takeSuper__d_h R nd G0 nd).1 = G0.1 := rfl
        generalize gf_1_takeSuper__d_h R nd G0 nd = G at gne gi gs gA
        have hm : MM (nd + 1) (nd + 1) G T := by
          obtain ⟨⟨s1, s2, s3, s4, s5, s6, s7, s8, s9⟩, m2, m3, m4⟩ := hB.1
          refine ⟨?_, fun d hd => ?_, fun d hd hz => ?_, fun d h1 h2 => by omega⟩
          · unfold sE
            rw [gA, g02, g05, g0 4 (by decide) (by decide), g0 6 (by decide) (by decide), g0 7 (by decide) (by decide), g0 8 (by decide) (by decide), g0 9 (by decide) (by decide), g0 10 (by decide) (by decide), g0 11 (by decide) (by decide), T6, T9, T1 1 (by decide) (by decide) (by decide), T1 2 (by decide) (by decide) (by decide), T1 3 (by decide) (by decide) (by decide), T1 4 (by decide) (by decide) (by decide), T1 8 (by decide) (by decide) (by decide), T1 10 (by decide) (by decide) (by decide), T1 11 (by decide) (by decide) (by decide), s1, s3]
            exact ⟨rfl, s2, rfl, s4, s5, s6, s7, s8, s9⟩
          · unfold dE
            by_cases e : d = nd
            · subst e
              simp only [gs, gi 5 (by decide) (by decide), gi 9 (by decide) (by decide), tl0, k5, k9]
              simp [s6, s7, s8, s9]
            · simp only [gne _ _ e, tne9 tl0 _ _ e]
              exact m2 d (by omega)
          · unfold stE
            by_cases e : d = nd
            · subst e
              refine Or.inr (Or.inl ?_)
              simp only [gi 10 (by decide) (by decide), tl0, k10]
              simp
              exact Geo9.pos (by omega) hB.2.1
            · simp only [gne _ _ e, tne9 tl0 _ _ e]
              exact m3 d (by omega) (by omega)
        have hH : HLD T = HLD t := by
          unfold HLD
          rw [T1 1 (by decide) (by decide) (by decide), T1 2 (by decide) (by decide) (by decide), T1 3 (by decide) (by decide) (by decide), T1 4 (by decide) (by decide) (by decide)]
        have hS : ∀ d, d < nd + 1 → T.2.1 0 d = 0 → SUP T d = HLD t := fun d hd hl => by
          by_cases e : d = nd
          · subst e
            unfold SUP HLD
            simp [tl0]
          · rw [tne9 tl0 _ _ e] at hl
            rw [← hh d (by omega) hl]
            unfold SUP
            rw [tne9 tl0 _ _ e, tne9 tl0 _ _ e, tne9 tl0 _ _ e, tne9 tl0 _ _ e]
        have hG : Geo9 R (nd + 1) (b + 1) (HLD t) := hB.2.1.mono (by omega) (by omega)
        have bi : BI R (nd + 1) (b + 1) G T := by
          refine ⟨hm, by rw [hH]; exact hG, fun d hd hl => by rw [hS d hd hl]; exact hG, fun d e h1 h2 h3 h4 _ => (hS d h1 h3).trans (hS e h2 h4).symm, fun d e h1 h2 h3 h4 h5 => ?_, fun x z h1 h2 h3 h4 => ?_, fun x => ?_, fun d hd => ?_⟩
          · by_cases ee : e = nd
            · subst ee
              rw [tl0] at h5
              simp at h5
            · rw [tne9 tl0 _ _ ee] at h4 h5
              obtain ⟨d0, hd0, l0⟩ : ∃ d0, d0 < nd ∧ t.2.1 0 d0 = 0 := by
                by_cases z0 : t.2.1 0 0 = 0
                · exact ⟨0, by omega, z0⟩
                · refine ⟨1, by omega, ?_⟩
                  by_cases z1 : t.2.1 0 1 = 0
                  · exact z1
                  · exact absurd (hB.2.2.2.2.2.1 0 1 (by omega) (by omega) z0 z1) (by decide)
              have jv := hB.2.2.2.2.1 d0 e hd0 (by omega) l0 h4 h5
              rw [hh d0 hd0 l0] at jv
              rw [hS d h1 h3]
              obtain ⟨Q, S, q1, q2, q3, q4, q5⟩ := jv
              exact ⟨Q, S, (tne9 tl0 _ _ ee).trans q1, q2, q3, by omega, fun z => (q5 z).same ⟨tne9 tl0 _ _ ee, tne9 tl0 _ _ ee, tne9 tl0 _ _ ee, gne _ _ ee, gne _ _ ee, gne _ _ ee⟩⟩
          · have f : ∀ k, k < nd + 1 → ¬ T.2.1 0 k = 0 → k < nd ∧ ¬ t.2.1 0 k = 0 := fun k hk q => by
              by_cases z : k = nd
              · subst z; rw [tl0] at q; simp at q
              · rw [tne9 tl0 _ _ z] at q
                exact ⟨by omega, q⟩
            obtain ⟨x1, x2⟩ := f x h1 h3
            obtain ⟨z1, z2⟩ := f z h2 h4
            exact hB.2.2.2.2.2.1 x z x1 z1 x2 z2
          · rw [tl0]
            split
            · simp; exact hB.2.2.2.2.2.2.1 x
            · exact hB.2.2.2.2.2.2.1 x
          · rw [gne _ _ (by omega), gne _ _ (by omega), gne _ _ (by omega), gne _ _ (by omega)]
            exact hB.2.2.2.2.2.2.2 d (by omega)
        refine Or.inl ⟨bi, ?_, (T1 5 (by decide) (by decide) (by decide)).trans hu2, ?_, ⟨B, hB1, (T1 7 (by decide) (by decide) (by decide)).trans hB2⟩, fun d hd q => ?_⟩
        · rw [gA, g0 1 (by decide) (by decide)]; exact hu
        · rw [gA, g0 3 (by decide) (by decide), T1 7 (by decide) (by decide) (by decide)]; exact h3
        · rw [hS d hd q, hH]
  · rw [if_pos h.2.1, if_pos h.2.2.1]
    exact ⟨rfl, fun q => absurd (show (1 : Int32) = 0 from q) (by decide), rfl, hn, INV.th (Or.inr h)⟩
end SIMM
