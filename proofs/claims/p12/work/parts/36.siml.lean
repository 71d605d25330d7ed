/-! ===== the calls: replace, add, grow ===== -/
section SIML
variable {R nd b : Nat} {g : GS} {t : MS}
theorem ti_ne {k d e q : Nat} {v : Int32} (h : ¬ e = d) : (ti t k d v).2.1 q e = t.2.1 q e := by
  by_cases hq : q = k
  · subst hq; simp [ti, va_up, h]
  · simp [ti, va_up, hq]
theorem tne9 {T : MS} {i : Nat} {f : Nat → Nat → Int32} (h : ∀ q e, T.2.1 q e = if e = i then f q e else t.2.1 q e) (q e : Nat) (he : ¬ e = i) : T.2.1 q e = t.2.1 q e := by rw [h, if_neg he]
theorem si_21 {k : Nat} {v : Int32} : (si t k v).2.1 = t.2.1 := rfl
/-- the power went, nothing else has changed -/
theorem dead0 {G : GS} {T : MS} (hb : b ≤ 1000) (h : UPI R nd b g t) (hM : MM nd nd G T) (h1 : G.2.1 = g.2.1) (h2 : ∀ q, ¬ q = 0 → T.2.1 q = t.2.1 q) (h3 : HLD T = HLD t) (hu : G.1 1 = 0) (h5 : T.1 5 = 0 ∧ T.1 7 = 0) : INV R nd (b + 1) G T := by
  obtain ⟨hB, -, -, -, -, hh⟩ := h
  have hS : ∀ d, SUP T d = SUP t d := fun d => by
    unfold SUP
    rw [h2 2 (by decide), h2 3 (by decide), h2 4 (by decide), h2 5 (by decide)]
  refine Or.inr ⟨(FIN (nw := up1 t) hb hB hh hM hB.2.1.up rfl (by rw [h1]) (fun d => Or.inl (hS d)) (Or.inl h3) (fun d hd => Or.inl ⟨by rw [h2 6 (by decide)], by rw [h2 7 (by decide)], by rw [h2 8 (by decide)], by rw [h1], by rw [h1], by rw [h1]⟩) (fun i => by rw [h2 8 (by decide)]; exact hB.2.2.2.2.2.2.1 i) (fun q d _ => by rw [h1])).1, hu, h5⟩
/-- no power for the write that is due -/
theorem dead1 (hn : nd ≤ 10) (hb : b ≤ 1000) (h : UPI R nd b g t) (h0 : t.1 6 = 0) : INV R nd (b + 1) (gf_4_spendWrite R nd g).2 (mf_lasts R nd (si t 0 0)).2 ∧ (gf_4_spendWrite R nd g).1 = 0 ∧ (mf_lasts R nd (si t 0 0)).1 = 0 ∧ (mf_lasts R nd (si t 0 0)).2.1 0 = 0 := by
  obtain ⟨m1, m2, m3, m4, m5⟩ := MM_no (R := R) (t := si t 0 0) hn h.1.1 h.2.1 h0
  obtain ⟨l1, l2, l3, l4, l5⟩ := lasts_no (R := R) (t := si t 0 0) hn h0
  refine ⟨dead0 hb h m1 (by rw [spend_arr]) (fun q hq => l3 q hq) ?_ m4 m5, m2, m3, ?_⟩
  · unfold HLD
    rw [l2]
    rfl
  · rw [l2]; rfl
theorem op_replace (hn : 3 ≤ nd ∧ nd ≤ 10) (hR : 2 ≤ R ∧ R ≤ 48) (hb : b ≤ 1000) (h : INV R nd b g t) : (gf_4_replace R nd g).1 = (mf_replace R nd t).1 ∧ INV R nd (b + 1) (gf_4_replace R nd g).2 (mf_replace R nd t).2 := by
  unfold gf_4_replace mf_replace
  rcases h with h | h
  · obtain ⟨hB, hu, hu2, h3, ⟨B, hB1, hB2⟩, hh⟩ := id h
    have hU : ¬ g.1 1 = 0 := by rw [hu]; decide
    have hU2 : ¬ t.1 5 = 0 := by rw [hu2]; decide
    have hth := INV.th (v := 0) (Or.inl h)
    rw [if_neg hU, if_neg hU2]
    rcases nl_eq (R := R) hn.2 (show MM nd nd g (si t 0 0) from hB.1) hB.2.2.2.2.2.1 with ⟨n1, n2, n3⟩ | ⟨i, hi, n1, n2, n3⟩
    · rw [if_pos n1, if_pos n2]
      exact ⟨rfl, hth⟩
    · have hc : (nI i).toNatClampNeg = i := nI_clamp (by omega)
      rw [n1, n2, if_neg (nI_m1 (by omega)), if_neg (nI_m1 (by omega)), hc]
      have li : ¬ t.2.1 0 i = 0 := n3
      have oth : ∀ d, d < nd → ¬ d = i → t.2.1 0 d = 0 := fun d hd hne => by
        by_cases z : t.2.1 0 d = 0
        · exact z
        · exact absurd (hB.2.2.2.2.2.1 d i hd hi z li) hne
      rcases hB.1.2.2.1 i hi (by omega) with ⟨s1, s2⟩ | ⟨s1, s2, s3⟩ | ⟨s1, s2, s3⟩
      · rw [s1, s2, if_neg (show ¬ (1 : Int32) = 0 by decide), if_pos rfl]
        obtain ⟨S, N, M, F, e1, e2, e3, e4, f1, f2, f3, f4, r1, r2, r3, r4, r5, r6, r7⟩ := hB.nums
        have sp : gf_4_isSpare R nd g (nI i) = 0 ↔ nI i < t.1 3 := by
          unfold gf_4_isSpare
          rw [f3, e3]
          split
          · rename_i c; exact ⟨fun _ => c, fun _ => rfl⟩
          · rename_i c; exact ⟨fun q => absurd q (by decide), fun q => absurd q c⟩
        by_cases c : nI i < t.1 3
        · -- it is rebuilding from row 0 on
          rw [if_pos (sp.mpr c), if_pos c]
          refine ⟨rfl, ?_⟩
          obtain ⟨w1, w2⟩ := renew_eq (R := R) (nd := nd) (g := g) (d := i) hR.2
          have tl0 : ∀ q e, (si (mf_tells R nd (ti (ti (ti (ti (si t 0 0) 0 i 2) 1 i 0) 6 i 0) 9 i 0) (nI i) 0 0 0 0) 7 0).2.1 q e = if e = i then (if q = 0 then 2 else if q = 1 ∨ q = 2 ∨ q = 3 ∨ q = 4 ∨ q = 5 ∨ q = 6 ∨ q = 9 then 0 else t.2.1 q e) else t.2.1 q e := by
            intro q e
            unfold mf_tells
            rw [hc]
            by_cases ee : e = i
            · subst ee
              by_cases a0 : q = 0
              · subst a0; simp [si, ti, va_up]
              · by_cases a1 : q = 1
                · subst a1; simp [si, ti, va_up]
                · by_cases a2 : q = 2
                  · subst a2; simp [si, ti, va_up]
                  · by_cases a3 : q = 3
                    · subst a3; simp [si, ti, va_up]
                    · by_cases a4 : q = 4
                      · subst a4; simp [si, ti, va_up]
                      · by_cases a5 : q = 5
                        · subst a5; simp [si, ti, va_up]
                        · by_cases a6 : q = 6
                          · subst a6; simp [si, ti, va_up]
                          · by_cases a9 : q = 9
                            · subst a9; simp [si, ti, va_up]
                            · simp [si, ti, va_up, a0, a1, a2, a3, a4, a5, a6, a9]
            · rw [if_neg ee]
              simp only [si_21, ti_ne ee]
          generalize eT : si (mf_tells R nd (ti (ti (ti (ti (si t 0 0) 0 i 2) 1 i 0) 6 i 0) 9 i 0) (nI i) 0 0 0 0) 7 0 = T at tl0
          have T1 : ∀ z, ¬ z = 0 → ¬ z = 7 → T.1 z = t.1 z := by
            intro z h0 h7
            rw [← eT]
            simp [si, mf_tells, ti, va_up, h0, h7]
          have T7 : T.1 7 = 0 := by rw [← eT]; rfl
          have tne : ∀ q e, ¬ e = i → T.2.1 q e = t.2.1 q e := fun q e he => by rw [tl0, if_neg he]
          have gne : ∀ q e, ¬ e = i → (gsi (gf_1_renew_d R nd g i) 3 0).2.1 q e = g.2.1 q e := fun q e he => by
            show (gf_1_renew_d R nd g i).2.1 q e = _
            rw [w2, if_neg (by omega)]
          have gi : ∀ q, q < 12 → (gsi (gf_1_renew_d R nd g i) 3 0).2.1 q i = 0 := fun q hq => by
            show (gf_1_renew_d R nd g i).2.1 q i = _
            rw [w2, if_pos ⟨rfl, hq⟩]
          have g1 : ∀ z, ¬ z = 3 → (gsi (gf_1_renew_d R nd g i) 3 0).1 z = g.1 z := fun z hz => by
            show va_up (gf_1_renew_d R nd g i).1 3 0 z = _
            rw [va_up_ne _ _ hz, w1]
          have g3 : (gsi (gf_1_renew_d R nd g i) 3 0).1 3 = 0 := by simp [gsi, va_up]
          generalize gsi (gf_1_renew_d R nd g i) 3 0 = G at gne gi g1 g3
          have hm : MM nd nd G T := by
            obtain ⟨⟨s1, s2, s3, s4, s5, s6, s7, s8, s9⟩, m2, m3, m4⟩ := hB.1
            refine ⟨?_, fun d hd => ?_, fun d hd hz => ?_, fun d h1 h2 => by omega⟩
            · unfold sE
              rw [g1 2 (by decide), g1 4 (by decide), g1 5 (by decide), g1 6 (by decide), g1 7 (by decide), g1 8 (by decide), g1 9 (by decide), g1 10 (by decide), g1 11 (by decide), T1 1 (by decide) (by decide), T1 2 (by decide) (by decide), T1 3 (by decide) (by decide), T1 4 (by decide) (by decide), T1 6 (by decide) (by decide), T1 8 (by decide) (by decide), T1 9 (by decide) (by decide), T1 10 (by decide) (by decide), T1 11 (by decide) (by decide)]
              exact ⟨s1, s2, s3, s4, s5, s6, s7, s8, s9⟩
            · unfold dE
              by_cases e : d = i
              · subst e
                simp only [gi 0 (by decide), gi 1 (by decide), gi 2 (by decide), gi 3 (by decide), gi 5 (by decide), gi 9 (by decide), gi 11 (by decide), tl0]
                simp
              · simp only [gne _ _ e, tne _ _ e]
                exact m2 d hd
            · unfold stE
              by_cases e : d = i
              · subst e
                refine Or.inr (Or.inr ?_)
                simp only [gi 10 (by decide), tl0]
                simp
              · simp only [gne _ _ e, tne _ _ e]
                exact m3 d hd hz
          have lvT : ∀ d, d < nd → T.2.1 0 d = 0 → ¬ d = i ∧ t.2.1 0 d = 0 := by
            intro d hd q
            by_cases e : d = i
            · subst e
              rw [tl0] at q
              simp at q
            · exact ⟨e, oth d hd e⟩
          have hH : HLD T = HLD t := by
            unfold HLD
            rw [T1 1 (by decide) (by decide), T1 2 (by decide) (by decide), T1 3 (by decide) (by decide), T1 4 (by decide) (by decide)]
          have hS : ∀ d, ¬ d = i → SUP T d = SUP t d := fun d e => by
            unfold SUP
            rw [tne _ _ e, tne _ _ e, tne _ _ e, tne _ _ e]
          have bi : BI R nd (b + 1) G T := by
            refine BI_tr (nw := up1 t) hb hB hh hm hB.2.1.up rfl (Or.inl hH) (fun x y hx hy q1 q2 => ?_) (fun d hd q => ?_) (fun d hd q => ⟨d, hd, (lvT d hd q).2⟩) (fun e he q1 q2 => ?_) (fun x => ?_) (fun q d hd => gne q d (by omega))
            · have f : ∀ k, k < nd → ¬ T.2.1 0 k = 0 → k = i := fun k hk q => by
                by_cases z : k = i
                · exact z
                · exact absurd (by rw [tne _ _ z]; exact oth k hk z) q
              exact (f x hx q1).trans (f y hy q2).symm
            · obtain ⟨e, l⟩ := lvT d hd q
              exact Or.inl ((hS d e).trans (hh d hd l))
            · by_cases ee : e = i
              · subst ee
                rw [tl0] at q2
                simp at q2
              · exact Or.inl ⟨by rw [oth e he ee]; decide, tne _ _ ee, tne _ _ ee, tne _ _ ee, gne _ _ ee, gne _ _ ee, gne _ _ ee⟩
            · rw [tl0]
              split
              · simp; exact hB.2.2.2.2.2.2.1 x
              · exact hB.2.2.2.2.2.2.1 x
          refine Or.inl ⟨bi, (g1 1 (by decide)).trans hu, (T1 5 (by decide) (by decide)).trans hu2, ?_, ⟨0, by omega, T7⟩, fun d hd q => ?_⟩
          · rw [T7, g3]
          · obtain ⟨e, l⟩ := lvT d hd q
            rw [hS d e, hH]
            exact hh d hd l
        · -- a spare: its super is told at once
          rw [if_neg (fun q => c (sp.mp q)), if_neg c]
          by_cases cp : t.1 6 = 0
          · obtain ⟨x1, x2, x3, x4⟩ := dead1 (R := R) hn.2 hb h cp
            rw [if_pos x2, if_pos x3]
            exact ⟨rfl, x1⟩
          · rw [spend_ok hu (by rw [hB.1.1.1]; exact cp), lasts_ok (show ¬ (si t 0 0).1 6 = 0 from cp), if_neg (show ¬ (1 : Int32) = 0 by decide), if_neg (show ¬ (1 : Int32) = 0 by decide)]
            refine ⟨rfl, ?_⟩
            show INV R nd (b + 1) (gf_1_takeSuper__d_h R nd (gf_1_renew_d R nd (gsi (gsi g 2 (dec9 (g.1 2))) 5 (g.1 5 + 1)) i) i) (mf_fresh R nd (si (si (si t 0 0) 6 (dec9 (t.1 6))) 9 ((si (si t 0 0) 6 (dec9 (t.1 6))).1 9 + 1)) (nI i))
            obtain ⟨w1, w2⟩ := renew_eq (R := R) (nd := nd) (g := gsi (gsi g 2 (dec9 (g.1 2))) 5 (g.1 5 + 1)) (d := i) hR.2
            generalize eG0 : gf_1_renew_d R nd (gsi (gsi g 2 (dec9 (g.1 2))) 5 (g.1 5 + 1)) i = G0 at w1 w2
            have tl0 : ∀ q e, (mf_fresh R nd (si (si (si t 0 0) 6 (dec9 (t.1 6))) 9 ((si (si t 0 0) 6 (dec9 (t.1 6))).1 9 + 1)) (nI i)).2.1 q e = if e = i then (if q = 0 ∨ q = 6 ∨ q = 9 then 0 else if q = 1 then 1 else if q = 2 then t.1 1 else if q = 3 then t.1 2 else if q = 4 then t.1 3 else if q = 5 then t.1 4 else t.2.1 q e) else t.2.1 q e := by
              intro q e
              unfold mf_fresh mf_tells
              rw [hc]
              by_cases ee : e = i
              · subst ee
                by_cases a0 : q = 0
                · subst a0; simp [si, ti, va_up]
                · by_cases a1 : q = 1
                  · subst a1; simp [si, ti, va_up]
                  · by_cases a2 : q = 2
                    · subst a2; simp [si, ti, va_up]
                    · by_cases a3 : q = 3
                      · subst a3; simp [si, ti, va_up]
                      · by_cases a4 : q = 4
                        · subst a4; simp [si, ti, va_up]
                        · by_cases a5 : q = 5
                          · subst a5; simp [si, ti, va_up]
                          · by_cases a6 : q = 6
                            · subst a6; simp [si, ti, va_up]
                            · by_cases a9 : q = 9
                              · subst a9; simp [si, ti, va_up]
                              · simp [si, ti, va_up, a0, a1, a2, a3, a4, a5, a6, a9]
              · rw [if_neg ee]
                simp only [si_21, ti_ne ee]
            have T1 : ∀ z, ¬ z = 0 → ¬ z = 6 → ¬ z = 9 → (mf_fresh R nd (si (si (si t 0 0) 6 (dec9 (t.1 6))) 9 ((si (si t 0 0) 6 (dec9 (t.1 6))).1 9 + 1)) (nI i)).1 z = t.1 z := by
              intro z h0 h6 h9
              simp [mf_fresh, mf_tells, si, ti, va_up, h0, h6, h9]
            have T6 : (mf_fresh R nd (si (si (si t 0 0) 6 (dec9 (t.1 6))) 9 ((si (si t 0 0) 6 (dec9 (t.1 6))).1 9 + 1)) (nI i)).1 6 = dec9 (t.1 6) := rfl
            have T9 : (mf_fresh R nd (si (si (si t 0 0) 6 (dec9 (t.1 6))) 9 ((si (si t 0 0) 6 (dec9 (t.1 6))).1 9 + 1)) (nI i)).1 9 = t.1 9 + 1 := rfl
            generalize mf_fresh R nd (si (si (si t 0 0) 6 (dec9 (t.1 6))) 9 ((si (si t 0 0) 6 (dec9 (t.1 6))).1 9 + 1)) (nI i) = T at tl0 T1 T6 T9
            have g0 : ∀ z, ¬ z = 2 → ¬ z = 5 → G0.1 z = g.1 z := fun z h2 h5 => by rw [w1]; simp [gsi, va_up, h2, h5]
            have g02 : G0.1 2 = dec9 (g.1 2) := by rw [w1]; rfl
            have g05 : G0.1 5 = g.1 5 + 1 := by rw [w1]; rfl
            have gne : ∀ q e, ¬ e = i → (gf_1_takeSuper__d_h R nd G0 i).2.1 q e = g.2.1 q e := fun q e he => by
              unfold gf_1_takeSuper__d_h gf_3_copyFrom_s_h gf_3_tell_s
              simp only [gdi_ne he]
              rw [w2, if_neg (by omega)]
              rfl
            have gi : ∀ q, 4 ≤ q → q < 11 → (gf_1_takeSuper__d_h R nd G0 i).2.1 q i = 0 := fun q h4 h11 => by
              unfold gf_1_takeSuper__d_h gf_3_copyFrom_s_h gf_3_tell_s
              simp [gdi, va_up, show ¬ q = 11 by omega, show ¬ q = 0 by omega, show ¬ q = 1 by omega, show ¬ q = 2 by omega, show ¬ q = 3 by omega]
              rw [w2, if_pos ⟨rfl, by omega⟩]
            have gs : (gf_1_takeSuper__d_h R nd G0 i).2.1 0 i = g.1 8 ∧ (gf_1_takeSuper__d_h R nd G0 i).2.1 1 i = g.1 9 ∧ (gf_1_takeSuper__d_h R nd G0 i).2.1 2 i = g.1 10 ∧ (gf_1_takeSuper__d_h R nd G0 i).2.1 3 i = g.1 11 ∧ (gf_1_takeSuper__d_h R nd G0 i).2.1 11 i = 1 := by
              unfold gf_1_takeSuper__d_h gf_3_copyFrom_s_h gf_3_tell_s
              rw [g0 8 (by decide) (by decide), g0 9 (by decide) (by decide), g0 10 (by decide) (by decide), g0 11 (by decide) (by decide)]
              refine ⟨?_, ?_, ?_, ?_, ?_⟩
              · simp [gdi, va_up]
              · simp [gdi, va_up]
              · simp [gdi, va_up]
              · simp [gdi, va_up]
              · have : G0.2.1 11 i = 0 := by rw [w2, if_pos ⟨rfl, by decide⟩]
                simp [gdi, va_up, this]
            have gA : (gf_1_takeSuper__d_h R nd G0 i).1 = G0.1 := rfl
            generalize gf_1_takeSuper__d_h R nd G0 i = G at gne gi gs gA
            have hm : MM nd nd G T := by
              obtain ⟨⟨s1, s2, s3, s4, s5, s6, s7, s8, s9⟩, m2, m3, m4⟩ := hB.1
              refine ⟨?_, fun d hd => ?_, fun d hd hz => ?_, fun d h1 h2 => by omega⟩
              · unfold sE
                rw [gA, g02, g05, g0 4 (by decide) (by decide), g0 6 (by decide) (by decide), g0 7 (by decide) (by decide), g0 8 (by decide) (by decide), g0 9 (by decide) (by decide), g0 10 (by decide) (by decide), g0 11 (by decide) (by decide), T6, T9, T1 1 (by decide) (by decide) (by decide), T1 2 (by decide) (by decide) (by decide), T1 3 (by decide) (by decide) (by decide), T1 4 (by decide) (by decide) (by decide), T1 8 (by decide) (by decide) (by decide), T1 10 (by decide) (by decide) (by decide), T1 11 (by decide) (by decide) (by decide), s1, s3]
                exact ⟨rfl, s2, rfl, s4, s5, s6, s7, s8, s9⟩
              · unfold dE
                by_cases e : d = i
                · subst e
                  simp only [gs, gi 5 (by decide) (by decide), gi 9 (by decide) (by decide), tl0]
                  simp [s6, s7, s8, s9]
                · simp only [gne _ _ e, tne9 tl0 _ _ e]
                  exact m2 d hd
              · unfold stE
                by_cases e : d = i
                · subst e
                  refine Or.inr (Or.inl ?_)
                  simp only [gi 10 (by decide) (by decide), tl0]
                  simp
                  exact Geo9.pos (by omega) hB.2.1
                · simp only [gne _ _ e, tne9 tl0 _ _ e]
                  exact m3 d hd hz
            have hH : HLD T = HLD t := by
              unfold HLD
              rw [T1 1 (by decide) (by decide) (by decide), T1 2 (by decide) (by decide) (by decide), T1 3 (by decide) (by decide) (by decide), T1 4 (by decide) (by decide) (by decide)]
            have hS : ∀ d, d < nd → SUP T d = HLD t := fun d hd => by
              by_cases e : d = i
              · subst e
                unfold SUP HLD
                simp [tl0]
              · rw [← hh d hd (oth d hd e)]
                unfold SUP
                rw [tne9 tl0 _ _ e, tne9 tl0 _ _ e, tne9 tl0 _ _ e, tne9 tl0 _ _ e]
            have lvT : ∀ d, d < nd → T.2.1 0 d = 0 := fun d hd => by
              by_cases e : d = i
              · subst e; rw [tl0]; simp
              · rw [tne9 tl0 _ _ e]; exact oth d hd e
            have bi : BI R nd (b + 1) G T := by
              refine BI_tr (nw := up1 t) hb hB hh hm hB.2.1.up rfl (Or.inl hH) (fun x y hx hy q1 q2 => absurd (lvT x hx) q1) (fun d hd q => Or.inl (hS d hd)) (fun d hd q => ?_) (fun e he q1 q2 => ?_) (fun x => ?_) (fun q d hd => gne q d (by omega))
              · by_cases z : i = 0
                · exact ⟨1, by omega, oth 1 (by omega) (by omega)⟩
                · exact ⟨0, by omega, oth 0 (by omega) (by omega)⟩
              · by_cases ee : e = i
                · subst ee
                  rw [tl0] at q2
                  simp at q2
                · exact Or.inl ⟨by rw [oth e he ee]; decide, tne9 tl0 _ _ ee, tne9 tl0 _ _ ee, tne9 tl0 _ _ ee, gne _ _ ee, gne _ _ ee, gne _ _ ee⟩
              · rw [tl0]
                split
                · simp; exact hB.2.2.2.2.2.2.1 x
                · exact hB.2.2.2.2.2.2.1 x
            refine Or.inl ⟨bi, ?_, (T1 5 (by decide) (by decide) (by decide)).trans hu2, ?_, ⟨B, hB1, (T1 7 (by decide) (by decide) (by decide)).trans hB2⟩, fun d hd q => ?_⟩
            · rw [gA, g0 1 (by decide) (by decide)]; exact hu
            · rw [gA, g0 3 (by decide) (by decide), T1 7 (by decide) (by decide) (by decide)]; exact h3
            · rw [hS d hd, hH]
      · exact absurd s1 li
      · rw [s1, s2, if_pos rfl, if_neg (show ¬ (2 : Int32) = 1 by decide)]
        exact ⟨rfl, hth⟩
  · rw [if_pos h.2.1, if_pos h.2.2.1]
    exact ⟨rfl, INV.th (Or.inr h)⟩
end SIML
