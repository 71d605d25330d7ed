/-! ===== open: what holds; the supers made alike ===== -/
section SIMR
variable {R nd b : Nat} {g : GS} {t : MS} {U : Int32}
/-- the search of the super that holds, on both sides -/
theorem find_l (hnd : nd ≤ 10) (hm : MM nd nd g t) (hpos : ∀ d, d < nd → t.2.1 0 d = 0 → 0 < t.2.1 2 d) : ∀ (j k : Nat) (gr best : Int32) (g1 : GS), k ≤ nd → nd < k + j → g1.2 = g.2 → (∀ z, ¬ z = 8 → ¬ z = 9 → ¬ z = 10 → ¬ z = 11 → g1.1 z = g.1 z) →
    ((best = -1 ∧ gr = 0 ∧ ∀ d, d < k → ¬ t.2.1 0 d = 0) ∨ ∃ i, i < nd ∧ best = nI i ∧ t.2.1 0 i = 0 ∧ gr = t.2.1 2 i ∧ g1.1 8 = t.2.1 2 i ∧ g1.1 9 = t.2.1 3 i ∧ g1.1 10 = t.2.1 4 i ∧ g1.1 11 = t.2.1 5 i ∧ ∀ d, d < k → t.2.1 0 d = 0 → t.2.1 2 d ≤ t.2.1 2 i) → (∃ d, d < nd ∧ t.2.1 0 d = 0) →
    ∃ i G, i < nd ∧ t.2.1 0 i = 0 ∧ (∀ d, d < nd → t.2.1 0 d = 0 → t.2.1 2 d ≤ t.2.1 2 i) ∧ gg_4_findWhatHolds_4 R nd j k gr g1 = gsi G 3 0 ∧ G.2 = g.2 ∧ (∀ z, ¬ z = 8 → ¬ z = 9 → ¬ z = 10 → ¬ z = 11 → G.1 z = g.1 z) ∧ G.1 8 = t.2.1 2 i ∧ G.1 9 = t.2.1 3 i ∧ G.1 10 = t.2.1 4 i ∧ G.1 11 = t.2.1 5 i ∧ mg_open_23 R nd j k best t = mg_open_115 R nd (nd + 1) 0 (si (si (si (si t 1 (t.2.1 2 i)) 2 (t.2.1 3 i)) 3 (t.2.1 4 i)) 4 (t.2.1 5 i)) := by
  intro j
  induction j with
  | zero => intro k gr best g1 h1 h2; omega
  | succ j ih =>
    intro k gr best g1 h1 h2 hg hz hst hex
    rw [gg_4_findWhatHolds_4, mg_open_23]
    by_cases c : nI nd ≤ nI k
    · have hk : nd ≤ k := ndle c (by omega)
      rw [if_pos c, if_pos c]
      rcases hst with ⟨-, -, q⟩ | ⟨i, hi, q1, q2, q3, q4, q5, q6, q7, q8⟩
      · obtain ⟨d, hd, l⟩ := hex
        exact absurd l (q d (by omega))
      · rw [q1, nI_clamp (by omega)]
        exact ⟨i, g1, hi, q2, fun d hd l => q8 d (by omega) l, rfl, hg, hz, q4, q5, q6, q7, rfl⟩
    · have hk : k < nd := nd_lt c (by omega)
      rw [if_neg c, if_neg c]
      have e21 : g1.2.1 = g.2.1 := by rw [hg]
      have dk := hm.2.1 k hk
      have lv : gf_4_isLive R nd g1 (nI k) = 0 ↔ ¬ t.2.1 0 k = 0 := by
        have l0 := live_k (R := R) hk hnd dk (hm.2.2.1 k hk (by omega))
        have : gf_4_isLive R nd g1 (nI k) = gf_4_isLive R nd g (nI k) := by
          unfold gf_4_isLive gf_4_isThere gf_1_isLive_d
          rw [e21]
        rw [this]
        exact l0
      by_cases c0 : t.2.1 0 k = 0
      · rw [if_pos c0, if_neg (fun q => (lv.mp q) c0)]
        have es : g1.2.1 0 k = t.2.1 2 k := by rw [e21]; exact dk.1
        rw [es]
        have take : (∀ d, d < k → t.2.1 0 d = 0 → t.2.1 2 d ≤ t.2.1 2 k) → ∃ i, i < nd ∧ nI k = nI i ∧ t.2.1 0 i = 0 ∧ t.2.1 2 k = t.2.1 2 i ∧ (gf_3_copyFrom_h_s R nd g1 k).1 8 = t.2.1 2 i ∧ (gf_3_copyFrom_h_s R nd g1 k).1 9 = t.2.1 3 i ∧ (gf_3_copyFrom_h_s R nd g1 k).1 10 = t.2.1 4 i ∧ (gf_3_copyFrom_h_s R nd g1 k).1 11 = t.2.1 5 i ∧ ∀ d, d < k + 1 → t.2.1 0 d = 0 → t.2.1 2 d ≤ t.2.1 2 i := fun hle =>
          ⟨k, hk, rfl, c0, rfl, es, by show g1.2.1 1 k = _; rw [e21]; exact dk.2.1, by show g1.2.1 2 k = _; rw [e21]; exact dk.2.2.1, by show g1.2.1 3 k = _; rw [e21]; exact dk.2.2.2.1, fun d hd l => by
            rcases Nat.lt_or_ge d k with q | q
            · exact hle d q l
            · rw [show d = k by omega]; exact Int32.le_refl _⟩
        have hzc : ∀ z, ¬ z = 8 → ¬ z = 9 → ¬ z = 10 → ¬ z = 11 → (gf_3_copyFrom_h_s R nd g1 k).1 z = g.1 z := fun z z8 z9 z10 z11 => by
          rw [← hz z z8 z9 z10 z11]
          simp [gf_3_copyFrom_h_s, gf_3_tell_h, gsi, va_up, z8, z9, z10, z11]
        rcases hst with ⟨q1, q2, q3⟩ | ⟨i, hi, q1, q2, q3, q4, q5, q6, q7, q8⟩
        · rw [if_pos q1, q2, if_neg (Int32.not_le.mpr (hpos k hk c0))]
          exact ih (k + 1) _ _ _ (by omega) (by omega) hg hzc (Or.inr (take (fun d hd l => absurd l (q3 d hd)))) hex
        · rw [if_neg (show ¬ best = -1 by rw [q1]; exact nI_m1 (by omega)), q3, q1, nI_clamp (by omega)]
          by_cases c1 : t.2.1 2 k ≤ t.2.1 2 i
          · rw [if_pos c1, if_pos c1]
            refine ih (k + 1) _ _ _ (by omega) (by omega) hg hz (Or.inr ⟨i, hi, rfl, q2, rfl, q4, q5, q6, q7, fun d hd l => ?_⟩) hex
            rcases Nat.lt_or_ge d k with q | q
            · exact q8 d q l
            · rw [show d = k by omega]; exact c1
          · rw [if_neg c1, if_neg c1]
            exact ih (k + 1) _ _ _ (by omega) (by omega) hg hzc (Or.inr (take (fun d hd l => Int32.le_trans (q8 d hd l) (Int32.le_of_lt (Int32.not_le.mp c1))))) hex
      · rw [if_neg c0, if_pos (lv.mpr c0)]
        refine ih (k + 1) gr best g1 (by omega) (by omega) hg hz (hst.imp (fun q => ⟨q.1, q.2.1, fun d hd => ?_⟩) (fun ⟨i, hi, q1, q2, q3, q4, q5, q6, q7, q8⟩ => ⟨i, hi, q1, q2, q3, q4, q5, q6, q7, fun d hd l => ?_⟩)) hex
        · rcases Nat.lt_or_ge d k with z | z
          · exact q.2.2 d z
          · rw [show d = k by omega]; exact c0
        · rcases Nat.lt_or_ge d k with z | z
          · exact q8 d z l
          · rw [show d = k by omega] at l; exact absurd l c0
/-- one super is made alike -/
theorem BI_lev {G : GS} {T : MS} {i k : Nat} (h : BI R nd b g t) (hi : i < nd) (li : t.2.1 0 i = 0) (si9 : SUP t i = HLD t) (hk : k < nd) (lk : t.2.1 0 k = 0) (hM : MM nd nd G T) (h10 : G.2.1 10 = g.2.1 10) (hS : ∀ d, SUP T d = if d = k then HLD t else SUP t d) (hp : 0 < t.1 1) (hH : HLD T = HLD t) (hJ : ∀ d, JS g t G T d) (hF : ∀ q d, nd ≤ d → G.2.1 q d = g.2.1 q d) : BI R nd b G T ∧ ∀ d, d < nd → (T.2.1 0 d = 0 ↔ t.2.1 0 d = 0) := by
  have hl : ∀ d, d < nd → (T.2.1 0 d = 0 ↔ t.2.1 0 d = 0) := by
    intro d hd
    rw [lv_iff hM hd, lv_iff h.1 hd, h10]
    by_cases e : d = k
    · have z : T.2.1 2 d = t.1 1 := (congrArg Prod.fst (hS d)).trans (by rw [if_pos e]; rfl)
      rw [z, e]
      have l := (lv_iff h.1 hk).mp lk
      exact ⟨fun _ => l, fun q => ⟨q.1, hp⟩⟩
    · rw [show T.2.1 2 d = t.2.1 2 d from (congrArg Prod.fst (hS d)).trans (by rw [if_neg e]; rfl)]
  obtain ⟨b1, b2, b3, b4, b5, b6, b7, b8⟩ := h
  -- a super of T is one of a live disk of t
  have rep : ∀ d, d < nd → T.2.1 0 d = 0 → ∃ d', d' < nd ∧ t.2.1 0 d' = 0 ∧ SUP T d = SUP t d' := fun d hd q => by
    by_cases e : d = k
    · exact ⟨i, hi, li, by rw [hS, if_pos e, si9]⟩
    · exact ⟨d, hd, (hl d hd).mp q, by rw [hS, if_neg e]⟩
  refine ⟨⟨hM, by rw [hH]; exact b2, fun d hd q => ?_, fun d e h1 h2 h3 h4 h5 => ?_, fun d e h1 h2 h3 h4 h5 => ?_, fun x y h1 h2 h3 h4 => b6 x y h1 h2 (fun q => h3 ((hl x h1).mpr q)) (fun q => h4 ((hl y h2).mpr q)), fun x => by rw [(hJ x).2.2.1]; exact b7 x, fun d hd => ?_⟩, hl⟩
  · obtain ⟨d', a1, a2, a3⟩ := rep d hd q
    rw [a3]; exact b3 d' a1 a2
  · obtain ⟨d', a1, a2, a3⟩ := rep d h1 h3
    obtain ⟨e', c1, c2, c3⟩ := rep e h2 h4
    rw [a3, c3]
    refine b4 d' e' a1 c1 a2 c2 ?_
    have x1 : T.2.1 2 d = t.2.1 2 d' := congrArg Prod.fst a3
    have x2 : T.2.1 2 e = t.2.1 2 e' := congrArg Prod.fst c3
    rw [← x1, ← x2]
    exact h5
  · obtain ⟨d', a1, a2, a3⟩ := rep d h1 h3
    obtain ⟨Q, S, q1, q2, q3, q4, q5⟩ := b5 d' e a1 h2 a2 (fun w => h4 ((fl_iff hM h2).mpr (by rw [h10]; exact (fl_iff b1 h2).mp w))) (by rw [← (hJ e).1]; exact h5)
    rw [a3]
    exact ⟨Q, S, (hJ e).2.1.trans q1, q2, q3, q4, fun z => (q5 z).same (hJ e)⟩
  · rw [hF 5 d hd, hF 9 d hd, hF 10 d hd, hF 11 d hd]; exact b8 d hd
theorem lev_keep (i : Nat) (h1 : ¬ i = 1) (h2 : ¬ i = 2) (h5 : ¬ i = 5) (h7 : ¬ i = 7) : ∀ (j k : Nat) (g1 : GS), (gg_4_levelSupers_2 R nd j k g1).1 i = g1.1 i := by
  intro j
  induction j with
  | zero => intro k g1; rfl
  | succ j ih =>
    intro k g1
    have e := spend_keep (R := R) (nd := nd) (g := g1) i h1 h2 h5 h7
    rw [gg_4_levelSupers_2]
    repeat' split
    all_goals first | rfl | exact ih _ _ | exact (ih _ _).trans e
theorem dn_lev_l : ∀ (j k : Nat) (g1 : GS), g1.1 1 = 0 → gg_4_levelSupers_2 R nd j k g1 = g1 := by
  intro j
  induction j with
  | zero => intro k g1 h; rfl
  | succ j ih =>
    intro k g1 h
    rw [gg_4_levelSupers_2, spend_dn h, if_pos rfl]
    repeat' split
    all_goals first | rfl | exact ih _ _ h
/-- the supers are made alike -/
theorem lev_l (hnd : nd ≤ 10) (hb : b ≤ 1000) {i : Nat} (hi : i < nd) : ∀ (j k : Nat) (g1 : GS) (t1 : MS), k ≤ nd → nd < k + j → BI R nd b g1 t1 → g1.1 1 = 1 → (g1.1 3 = t1.1 7 ∧ t1.1 5 = U) → t1.1 0 = 0 → t1.2.1 0 i = 0 → SUP t1 i = HLD t1 → (∀ d, d < k → d < nd → t1.2.1 0 d = 0 → SUP t1 d = HLD t1) →
    (∃ T, mg_open_115 R nd j k t1 = mg_open_193 R nd (nd + 1) 0 (-1) 0 T ∧ (gg_4_levelSupers_2 R nd j k g1).1 1 = 1 ∧ BI R nd b (gg_4_levelSupers_2 R nd j k g1) T ∧ ((gg_4_levelSupers_2 R nd j k g1).1 3 = T.1 7 ∧ T.1 5 = U) ∧ T.1 0 = 0 ∧ ∀ d, d < nd → T.2.1 0 d = 0 → SUP T d = HLD T) ∨
    ((mg_open_115 R nd j k t1).1 = 0 ∧ (gg_4_levelSupers_2 R nd j k g1).1 1 = 0 ∧ BI R nd b (gg_4_levelSupers_2 R nd j k g1) (mg_open_115 R nd j k t1).2 ∧ ((mg_open_115 R nd j k t1).2.1 5 = 0 ∧ (mg_open_115 R nd j k t1).2.1 7 = 0) ∧ (mg_open_115 R nd j k t1).2.1 0 = 0) := by
  intro j
  induction j with
  | zero => intro k g1 t1 h1 h2; omega
  | succ j ih =>
    intro k g1 t1 h1 h2 hB hu h3 h0 li si9 hd0
    rw [gg_4_levelSupers_2, mg_open_115]
    by_cases c : nI nd ≤ nI k
    · have hk : nd ≤ k := ndle c (by omega)
      rw [if_pos c, if_pos c]
      exact Or.inl ⟨t1, rfl, hu, hB, h3, h0, fun d hd q => hd0 d (by omega) hd q⟩
    · have hk : k < nd := nd_lt c (by omega)
      rw [if_neg c, if_neg c]
      have dk := hB.1.2.1 k hk
      have lv := live_k (R := R) hk hnd dk (hB.1.2.2.1 k hk (by omega))
      have es : (g1.2.1 0 k = g1.1 8) ↔ (t1.2.1 2 k = t1.1 1) := by rw [dk.1, hB.1.1.2.2.2.2.2.1]
      have skip : (t1.2.1 0 k = 0 → SUP t1 k = HLD t1) → _ := fun hs => ih (k + 1) g1 t1 (by omega) (by omega) hB hu h3 h0 li si9 (fun d hd hn q => by
        rcases Nat.lt_or_ge d k with z | z
        · exact hd0 d z hn q
        · have e : d = k := by omega
          rw [e] at q ⊢; exact hs q)
      by_cases c0 : t1.2.1 0 k = 0
      · rw [if_pos c0]
        by_cases c1 : t1.2.1 2 k = t1.1 1
        · rw [if_pos c1, if_pos (es.mpr c1), ite_self]
          refine skip (fun _ => ?_)
          rw [← si9]
          refine hB.2.2.2.1 k i hk hi c0 li (c1.trans ?_)
          exact (congrArg Prod.fst si9).symm
        · rw [if_neg c1, if_neg (fun q => c1 (es.mp q)), if_neg (fun q => (lv.mp q) c0)]
          by_cases cp : t1.1 6 = 0
          · obtain ⟨m1, m2, m3, m4, m5⟩ := MM_no (R := R) hnd hB.1 hu cp
            obtain ⟨l1, l2, l3, l4, l5⟩ := lasts_no (R := R) hnd cp
            rw [pokes_no hnd cp, if_pos m2, if_pos rfl, dn_lev_l _ _ _ m4]
            refine Or.inr ⟨rfl, m4, (BI_mid hB m1 (by rw [spend_arr]) (fun d => ?_) ?_ (fun d => ⟨by rw [l3 6 (by decide)], by rw [l3 7 (by decide)], by rw [l3 8 (by decide)], by rw [spend_arr], by rw [spend_arr], by rw [spend_arr]⟩) (fun q d _ => by rw [spend_arr])).1, m5, ?_⟩
            · unfold SUP
              rw [l3 2 (by decide), l3 3 (by decide), l3 4 (by decide), l3 5 (by decide)]
            · unfold HLD
              rw [l2]
              rfl
            · rw [l2]; exact h0
          · have hp : 0 < t1.1 1 := Geo9.pos (s := HLD t1) (by omega) hB.2.1
            have hc : (nI k).toNatClampNeg = k := nI_clamp (by omega)
            have e3 : (gf_4_spendWrite R nd g1).1 = 1 := by rw [spend_ok hu (by rw [hB.1.1.1]; exact cp)]
            have sk := fun z h1 h2 h5 h7 => spend_keep (R := R) (nd := nd) (g := g1) z h1 h2 h5 h7
            have eT : gf_1_takeSuper__d_h R nd (gf_4_spendWrite R nd g1).2 k = gf_1_takeSuper_d R nd (gf_4_spendWrite R nd g1).2 k (t1.1 1) (t1.1 2) (t1.1 3) (t1.1 4) := by
              rw [← hB.1.1.2.2.2.2.2.1, ← hB.1.1.2.2.2.2.2.2.1, ← hB.1.1.2.2.2.2.2.2.2.1, ← hB.1.1.2.2.2.2.2.2.2.2, ← sk 8 (by decide) (by decide) (by decide) (by decide), ← sk 9 (by decide) (by decide) (by decide) (by decide), ← sk 10 (by decide) (by decide) (by decide) (by decide), ← sk 11 (by decide) (by decide) (by decide) (by decide)]
              rfl
            have hm := MM_set (R := R) (n0 := t1.1 2) (m0 := t1.1 3) (f := t1.1 4) (al := nd) hk hnd hp (Or.inr c0) hB.1 hu cp
            rw [e3, if_neg (show ¬ (1 : Int32) = 0 by decide), eT]
            have gfT : GF nd aSu g1 (gf_1_takeSuper_d R nd (gf_4_spendWrite R nd g1).2 k (t1.1 1) (t1.1 2) (t1.1 3) (t1.1 4)) := GF_spend.tr (GF_ts hk)
            have gu : (gf_1_takeSuper_d R nd (gf_4_spendWrite R nd g1).2 k (t1.1 1) (t1.1 2) (t1.1 3) (t1.1 4)).1 1 = 1 := by
              rw [(takeSuper_eq).1, spend_ok hu (by rw [hB.1.1.1]; exact cp)]
              exact hu
            have g3 : (gf_1_takeSuper_d R nd (gf_4_spendWrite R nd g1).2 k (t1.1 1) (t1.1 2) (t1.1 3) (t1.1 4)).1 3 = g1.1 3 := by
              rw [(takeSuper_eq).1]
              exact sk 3 (by decide) (by decide) (by decide) (by decide)
            generalize gf_1_takeSuper_d R nd (gf_4_spendWrite R nd g1).2 k (t1.1 1) (t1.1 2) (t1.1 3) (t1.1 4) = G at hm gfT gu g3
            rw [pokes_ok (by omega) cp, if_neg (show ¬ (1 : Int32) = 0 by decide)]
            rw [pokes_ok (by omega) cp] at hm
            have hS : ∀ d, SUP (mf_tells R nd (si (ti (si t1 6 (dec9 (t1.1 6))) 1 k (t1.2.1 1 k + 1)) 9 (t1.1 9 + 1)) (nI k) (t1.1 1) (t1.1 2) (t1.1 3) (t1.1 4)) d = if d = k then HLD t1 else SUP t1 d := by
              intro d
              unfold SUP mf_tells HLD
              rw [hc]
              by_cases e : d = k
              · subst e; simp [ti, si, va_up]
              · simp [ti, si, va_up, e]
            have t678 : ∀ q, 6 ≤ q → (mf_tells R nd (si (ti (si t1 6 (dec9 (t1.1 6))) 1 k (t1.2.1 1 k + 1)) 9 (t1.1 9 + 1)) (nI k) (t1.1 1) (t1.1 2) (t1.1 3) (t1.1 4)).2.1 q = t1.2.1 q := fun q hq => by
              simp [mf_tells, ti, si, va_up, show ¬ q = 5 by omega, show ¬ q = 4 by omega, show ¬ q = 3 by omega, show ¬ q = 2 by omega, show ¬ q = 1 by omega]
            obtain ⟨y1, y2⟩ := BI_lev hB hi li si9 hk c0 hm (gfT.1 10 (by decide)) hS hp rfl (fun d => ⟨by rw [t678 6 (by decide)], by rw [t678 7 (by decide)], by rw [t678 8 (by decide)], by rw [gfT.1 6 (by decide)], by rw [gfT.1 7 (by decide)], by rw [gfT.1 8 (by decide)]⟩) gfT.2
            refine ih (k + 1) G _ (by omega) (by omega) y1 gu ⟨g3.trans h3.1, h3.2⟩ h0 ((y2 i hi).mpr li) ?_ (fun d hd hn q => ?_)
            · refine (hS i).trans ?_
              by_cases e : i = k
              · rw [if_pos e]; rfl
              · rw [if_neg e]; exact si9
            · refine (hS d).trans ?_
              by_cases e : d = k
              · rw [if_pos e]; rfl
              · rw [if_neg e]
                exact hd0 d (by omega) hn ((y2 d hn).mp q)
      · rw [if_neg c0]
        by_cases c1 : g1.2.1 0 k = g1.1 8
        · rw [if_pos c1, ite_self]
          exact skip (fun q => absurd q c0)
        · rw [if_neg c1, if_pos (lv.mpr c0)]
          exact skip (fun q => absurd q c0)
end SIMR
