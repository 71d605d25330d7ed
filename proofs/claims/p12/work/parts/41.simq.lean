/-! ===== the calls: rebuild ===== -/
section SIMQ
variable {R nd b : Nat} {g : GS} {t : MS} {U : Int32}
theorem op_rebuild (hn : 3 ≤ nd ∧ nd ≤ 10) (hR : 2 ≤ R ∧ R ≤ 48) (hb : b ≤ 1000) (h : INV R nd b g t) (y : Int64) :
    mf_thrown R nd (mf_rebuild R nd t).2 = (lr_rebuild R nd g y).1 ∧ ((lr_rebuild R nd g y).1 = 0 → (lr_rebuild R nd g y).2.2.2 = ((mf_rebuild R nd t).1).toInt64) ∧ (lr_rebuild R nd g y).2.1 = nd ∧ INV R nd (b + 1) (lr_rebuild R nd g y).2.2.1 (mf_rebuild R nd t).2 := by
  unfold lr_rebuild mf_rebuild mf_thrown gf_4_rebuild
  rcases h with h | h
  · obtain ⟨hB, hu, hu2, h3, ⟨B, hB1, hB2⟩, hh⟩ := id h
    have hU : ¬ g.1 1 = 0 := by rw [hu]; decide
    have hU2 : ¬ t.1 5 = 0 := by rw [hu2]; decide
    have hth := INV.th (v := 0) (Or.inl h)
    have g3 : g.1 3 = nI B := h3.trans hB2
    rw [if_neg hU, if_neg hU2]
    have hB0 : BI R nd b g (si t 0 0) := hB
    rcases rb_eq (R := R) hn.2 hB0 with ⟨x1, x2⟩ | ⟨i, hi, x1, x2, x3, x4⟩
    · rw [if_pos x1, if_pos x2]
      exact ⟨rfl, fun _ => rfl, rfl, hth⟩
    · have st2 : t.2.1 0 i = 2 := x4
      have hc : (nI i).toNatClampNeg = i := nI_clamp (by omega)
      rw [x1, x2, if_neg (nI_m1 (show i < 2 ^ 31 by omega)), if_neg x3, hc]
      by_cases cp : t.1 6 = 0
      · obtain ⟨z1, z2, z3, z4⟩ := dead1 (R := R) hn.2 hb h cp
        rw [if_pos z2, pokes_no hn.2 (show (si t 0 0).1 6 = 0 from cp), if_pos rfl]
        exact ⟨z4, fun _ => rfl, rfl, z1⟩
      · rw [pokes_ok (by omega) (show ¬ (si t 0 0).1 6 = 0 from cp), spend_ok hu (by rw [hB.1.1.1]; exact cp), if_neg (show ¬ (1 : Int32) = 0 by decide), if_neg (show ¬ (1 : Int32) = 0 by decide)]
        have hcB : (nI B).toNatClampNeg = B := nI_clamp (by omega)
        have hr0 : ¬ nI B < 0 := Int32.not_lt.mpr (nI_0 ▸ nI_le (a := 0) (by omega) (by omega))
        have hrR : ¬ nI R ≤ nI B := nI_ge hB1 (by omega)
        have eG1 : ∀ v, gf_1_takeBlock_d R nd (gsi (gsi g 2 (dec9 (g.1 2))) 5 (g.1 5 + 1)) i ((gsi (gsi g 2 (dec9 (g.1 2))) 5 (g.1 5 + 1)).1 3) v = gdi (gsi (gsi (gli g 4 i B v) 2 (dec9 (g.1 2))) 5 ((gli g 4 i B v).1 5 + 1)) 11 i ((gli g 4 i B v).2.1 11 i + 1) := by
          intro v
          unfold gf_1_takeBlock_d
          rw [show (gsi (gsi g 2 (dec9 (g.1 2))) 5 (g.1 5 + 1)).1 3 = nI B from g3, if_neg hr0, if_neg hrR, hcB]
          rfl
        dsimp only
        rw [eG1]
        generalize gf_4_blockDue R nd g (nI i) (g.1 3) = v
        have hM1 : MM nd nd (gdi (gsi (gsi (gli g 4 i B v) 2 (dec9 (g.1 2))) 5 ((gli g 4 i B v).1 5 + 1)) 11 i ((gli g 4 i B v).2.1 11 i + 1)) (si (ti (si (si t 0 0) 6 (dec9 ((si t 0 0).1 6))) 1 i ((si t 0 0).2.1 1 i + 1)) 9 ((si t 0 0).1 9 + 1)) := by
          rw [hB.1.1.1]
          exact MM_tick (g := gli g 4 i B v) (t := si t 0 0) hi hB.1
        have gA : ∀ z, ¬ z = 2 → ¬ z = 5 → (gdi (gsi (gsi (gli g 4 i B v) 2 (dec9 (g.1 2))) 5 ((gli g 4 i B v).1 5 + 1)) 11 i ((gli g 4 i B v).2.1 11 i + 1)).1 z = g.1 z := fun z h2 h5 => by simp [gdi, gsi, gli, va_up, h2, h5]
        have gF : GF nd (fun q => q = 9 ∨ q = 11) g (gdi (gsi (gsi (gli g 4 i B v) 2 (dec9 (g.1 2))) 5 ((gli g 4 i B v).1 5 + 1)) 11 i ((gli g 4 i B v).2.1 11 i + 1)) := (GF.of (g := g) (G := gsi (gsi (gli g 4 i B v) 2 (dec9 (g.1 2))) 5 ((gli g 4 i B v).1 5 + 1)) rfl).tr (GF.di (Or.inr rfl) hi)
        generalize gdi (gsi (gsi (gli g 4 i B v) 2 (dec9 (g.1 2))) 5 ((gli g 4 i B v).1 5 + 1)) 11 i ((gli g 4 i B v).2.1 11 i + 1) = G1 at hM1 gA gF
        have tA : ∀ z, ¬ z = 0 → ¬ z = 6 → ¬ z = 9 → (si (ti (si (si t 0 0) 6 (dec9 ((si t 0 0).1 6))) 1 i ((si t 0 0).2.1 1 i + 1)) 9 ((si t 0 0).1 9 + 1)).1 z = t.1 z := fun z h0 h6 h9 => by simp [ti, si, va_up, h0, h6, h9]
        have tF : ∀ q, ¬ q = 1 → (si (ti (si (si t 0 0) 6 (dec9 ((si t 0 0).1 6))) 1 i ((si t 0 0).2.1 1 i + 1)) 9 ((si t 0 0).1 9 + 1)).2.1 q = t.2.1 q := fun q h1 => by simp [ti, si, va_up, h1]
        have t0 : (si (ti (si (si t 0 0) 6 (dec9 ((si t 0 0).1 6))) 1 i ((si t 0 0).2.1 1 i + 1)) 9 ((si t 0 0).1 9 + 1)).1 0 = 0 := rfl
        generalize si (ti (si (si t 0 0) 6 (dec9 ((si t 0 0).1 6))) 1 i ((si t 0 0).2.1 1 i + 1)) 9 ((si t 0 0).1 9 + 1) = T1 at hM1 tA tF t0
        have hH1 : HLD T1 = HLD t := by
          unfold HLD
          rw [tA 1 (by decide) (by decide) (by decide), tA 2 (by decide) (by decide) (by decide), tA 3 (by decide) (by decide) (by decide), tA 4 (by decide) (by decide) (by decide)]
        obtain ⟨y1, y2⟩ := keep_mid hB hM1 gF (fun q h2 _ => tF q (by omega)) hH1
        have hS1 : ∀ d, SUP T1 d = SUP t d := fun d => by
          unfold SUP
          rw [tF 2 (by decide), tF 3 (by decide), tF 4 (by decide), tF 5 (by decide)]
        have hh1 : ∀ d, d < nd → T1.2.1 0 d = 0 → SUP T1 d = HLD T1 := fun d hd q => by rw [hS1, hH1]; exact hh d hd ((y2 d hd).mp q)
        have s1 : T1.2.1 0 i = 2 := by rw [tF 0 (by decide)]; exact st2
        have oth : ∀ d, d < nd → ¬ d = i → T1.2.1 0 d = 0 := fun d hd hne => by
          by_cases z : T1.2.1 0 d = 0
          · exact z
          · exact absurd (y1.2.2.2.2.2.1 d i hd hi z (by rw [s1]; decide)) hne
        have eg3 : G1.1 3 = nI B := (gA 3 (by decide) (by decide)).trans g3
        have et7 : T1.1 7 = nI B := (tA 7 (by decide) (by decide) (by decide)).trans hB2
        have et5 : T1.1 5 = 1 := (tA 5 (by decide) (by decide) (by decide)).trans hu2
        have eu : G1.1 1 = 1 := (gA 1 (by decide) (by decide)).trans hu
        rw [eg3, et7, nI_1]
        by_cases cl : nI R ≤ nI (B + 1)
        · -- the last row
          have hlast : B + 1 = R := by have := ndle cl (by omega); omega
          rw [if_pos cl, if_pos cl]
          have q9 : G1.1 9 = T1.1 2 := hM1.1.2.2.2.2.2.2.1
          have q10 : G1.1 10 = T1.1 3 := hM1.1.2.2.2.2.2.2.2.1
          have q11 : G1.1 11 = T1.1 4 := hM1.1.2.2.2.2.2.2.2.2
          rw [q9, q10, q11]
          have hMi : MM i nd G1 T1 := by
            obtain ⟨m1, m2, m3, m4⟩ := hM1
            refine ⟨m1, m2, fun d hd _ => m3 d hd (by omega), fun d hd e => ?_⟩
            subst e
            rcases m3 d hd (by omega) with ⟨z1, z2⟩ | ⟨z1, z2, z3⟩ | ⟨z1, z2, z3⟩
            · rw [s1] at z1; exact absurd z1 (by decide)
            · rw [s1] at z1; exact absurd z1 (by decide)
            · exact ⟨z2, by rw [z1]; decide, Or.inl z3⟩
          have hnw : Geo9 R nd (b + 1) (up1 T1) := y1.2.1.up
          have hp : 0 < T1.1 1 + 1 := Geo9.pos (s := up1 T1) (by omega) hnw
          have key := sim_sets (R := R) (U := 1) (n0 := T1.1 2) (m0 := T1.1 3) (f := T1.1 4) hn.2 (jo_al hn.2 hi) hMi eu ⟨by rw [eg3, et7], et5⟩ hp
          obtain ⟨p1, p2, p3, p4, p5⟩ := sets_sup (R := R) (t := T1) (n0 := T1.1 2) (m0 := T1.1 3) (f := T1.1 4) (jo := nI i) hn.2
          have gf := GF_set (R := R) (g := G1) (n0 := T1.1 2) (m0 := T1.1 3) (f := T1.1 4) (jo := nI i) hn.2
          generalize mf_sets R nd T1 (T1.1 2) (T1.1 3) (T1.1 4) (nI i) = rT at key p1 p2 p3 p4 p5
          generalize gf_4_setSuper R nd G1 (T1.1 2) (T1.1 3) (T1.1 4) (nI i) = G at key gf
          have js : ∀ (z : Int32) (T' : MS) (d : Nat), T'.2.1 6 = rT.2.2.1 6 → T'.2.1 7 = rT.2.2.1 7 → T'.2.1 8 = rT.2.2.1 8 → JS G1 T1 (gsi G 3 z) T' d := fun z T' d h6 h7 h8 => ⟨by rw [h6, p2 6 (by decide)], by rw [h7, p2 7 (by decide)], by rw [h8, p2 8 (by decide)], by show G.2.1 6 d = _; rw [gf.1 6 (by decide)], by show G.2.1 7 d = _; rw [gf.1 7 (by decide)], by show G.2.1 8 d = _; rw [gf.1 8 (by decide)]⟩
          have hE : ∃ d0, d0 < nd ∧ T1.2.1 0 d0 = 0 := by
            by_cases z : i = 0
            · exact ⟨1, by omega, oth 1 (by omega) (by omega)⟩
            · exact ⟨0, by omega, oth 0 (by omega) (by omega)⟩
          have nf : ∀ e, e < nd → ¬ T1.2.1 0 e = 1 := fun e he => by
            by_cases z : e = i
            · rw [z, s1]; decide
            · rw [oth e he z]; decide
          rcases key with ⟨d1, d2, d3, d4, d5⟩ | ⟨d1, d2, d3, d4⟩
          · obtain ⟨w1, w2, w3⟩ := p3 (by rw [d1]; decide)
            rw [d1, d2, if_neg (show ¬ (1 : Int32) = 0 by decide), if_neg (show ¬ (1 : Int32) = 0 by decide)]
            have all : ∀ d, d < nd → SUP rT.2 d = up1 T1 := fun d hd => by
              by_cases z : d = i
              · exact w3 d hd (Or.inr (by rw [z]))
              · exact w3 d hd (Or.inl (oth d hd z))
            have lvA : ∀ d, d < nd → (si (ti rT.2 0 i 0) 7 0).2.1 0 d = 0 := fun d hd => by
              by_cases z : d = i
              · subst z; simp [si, ti, va_up]
              · show (ti rT.2 0 i 0).2.1 0 d = 0
                rw [ti_ne z, w2]; exact oth d hd z
            have hm : MM nd nd (gsi G 3 0) (si (ti rT.2 0 i 0) 7 0) := by
              obtain ⟨m1, m2, m3, m4⟩ := d3
              refine ⟨m1, fun d hd => ?_, fun d hd _ => ?_, fun d h1 h2 => by omega⟩
              · have := m2 d hd
                unfold dE at this ⊢
                simpa [gsi, si, ti, va_up] using this
              · by_cases z : d = i
                · subst z
                  refine Or.inr (Or.inl ⟨lvA d hd, (m4 d hd rfl).1, ?_⟩)
                  have : rT.2.2.1 2 d = T1.1 1 + 1 := congrArg Prod.fst (all d hd)
                  show 0 < (ti rT.2 0 d 0).2.1 2 d
                  rw [show (ti rT.2 0 d 0).2.1 2 d = rT.2.2.1 2 d by simp [ti, va_up], this]
                  exact hp
                · have := m3 d hd z
                  unfold stE at this ⊢
                  simpa [gsi, si, ti, va_up, z] using this
            have hSA : ∀ d, d < nd → SUP (si (ti rT.2 0 i 0) 7 0) d = up1 T1 := fun d hd => by
              rw [← all d hd]
              unfold SUP
              simp [si, ti, va_up]
            have bi : BI R nd (b + 1) (gsi G 3 0) (si (ti rT.2 0 i 0) 7 0) := by
              refine BI_tr (nw := up1 T1) hb y1 hh1 hm hnw rfl (Or.inr w1) (fun x z hx hz q1 _ => absurd (lvA x hx) q1) (fun d hd _ => Or.inr (hSA d hd)) (fun d _ _ => hE) (fun e he _ _ => Or.inl ⟨nf e he, js 0 _ e (by simp [si, ti, va_up]) (by simp [si, ti, va_up]) (by simp [si, ti, va_up])⟩) (fun x => ?_) (fun q d hd => gf.2 q d hd)
              have : (si (ti rT.2 0 i 0) 7 0).2.1 8 x = T1.2.1 8 x := by
                show (ti rT.2 0 i 0).2.1 8 x = _
                rw [show (ti rT.2 0 i 0).2.1 8 x = rT.2.2.1 8 x by simp [ti, va_up], p2 8 (by decide)]
              rw [this]
              exact y1.2.2.2.2.2.2.1 x
            refine ⟨p5.trans t0, fun _ => rfl, rfl, Or.inl ⟨bi, d2, d5, ?_, ⟨0, by omega, ?_⟩, fun d hd _ => ?_⟩⟩
            · simp [gsi, si, va_up]
            · simp [si, va_up]; rfl
            · rw [hSA d hd]
              exact w1.symm
          · rw [d1, d2, if_pos rfl, if_pos rfl]
            have hH2 : HLD rT.2 = HLD T1 := p4 d1
            have h10 : G.2.1 10 = G1.2.1 10 := gf.1 10 (by decide)
            have lvd : ∀ d, d < nd → ¬ d = i → rT.2.2.1 0 d = 0 := fun d hd z => by
              have l1 := (lv_iff hM1 hd).mp (oth d hd z)
              refine (lv_iff d4 hd).mpr ⟨by rw [h10]; exact l1.1, ?_⟩
              rcases p1 d with q | ⟨q, -⟩
              · rw [show rT.2.2.1 2 d = T1.2.1 2 d from congrArg Prod.fst q]; exact l1.2
              · rw [show rT.2.2.1 2 d = T1.1 1 + 1 from congrArg Prod.fst q]; exact hp
            have bi : BI R nd (b + 1) G rT.2 := by
              refine BI_tr (nw := up1 T1) hb y1 hh1 d4 hnw rfl (Or.inl hH2) (fun x z hx hz q1 q2 => ?_) (fun d hd q => ?_) (fun d _ _ => hE) (fun e he _ _ => Or.inl ⟨nf e he, by rw [p2 6 (by decide)], by rw [p2 7 (by decide)], by rw [p2 8 (by decide)], by rw [gf.1 6 (by decide)], by rw [gf.1 7 (by decide)], by rw [gf.1 8 (by decide)]⟩) (fun x => by rw [p2 8 (by decide)]; exact y1.2.2.2.2.2.2.1 x) gf.2
              · have f : ∀ k, k < nd → ¬ rT.2.2.1 0 k = 0 → k = i := fun k hk q => by
                  by_cases z : k = i
                  · exact z
                  · exact absurd (lvd k hk z) q
                exact (f x hx q1).trans (f z hz q2).symm
              · rcases p1 d with q2 | ⟨q2, -⟩
                · by_cases z : d = i
                  · subst z
                    have l1 := (lv_iff d4 hd).mp q
                    rw [show rT.2.2.1 2 d = T1.2.1 2 d from congrArg Prod.fst q2] at l1
                    have := (lv_iff hM1 hd).mpr ⟨by rw [← h10]; exact l1.1, l1.2⟩
                    rw [s1] at this
                    exact absurd this (by decide)
                  · exact Or.inl (q2.trans (hh1 d hd (oth d hd z)))
                · exact Or.inr q2
            exact ⟨p5.trans t0, fun _ => rfl, rfl, Or.inr ⟨bi, d2, d3⟩⟩
        · rw [if_neg cl, if_neg cl]
          have hB3 : B + 1 < R := by
            rcases Nat.lt_or_ge (B + 1) R with q | q
            · exact q
            · exact absurd (nI_le q (by omega)) cl
          refine ⟨t0, fun _ => rfl, rfl, Or.inl ⟨y1.mono, eu, et5, ?_, ⟨B + 1, hB3, ?_⟩, fun d hd q => hh1 d hd q⟩⟩
          · simp [gsi, si, va_up]
          · simp [si, va_up]
  · rw [if_pos h.2.1, if_pos h.2.2.1]
    exact ⟨rfl, fun q => absurd (show (1 : Int32) = 0 from q) (by decide), rfl, INV.th (Or.inr h)⟩
end SIMQ
