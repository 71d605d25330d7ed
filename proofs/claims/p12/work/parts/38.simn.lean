/-! ===== the calls: grow, step ===== -/
section SIMN
variable {R nd b : Nat} {g : GS} {t : MS} {U : Int32}
theorem BI_mid {G : GS} {T : MS} (h : BI R nd b g t) (hM : MM nd nd G T) (h10 : G.2.1 10 = g.2.1 10) (hS : ∀ d, SUP T d = SUP t d) (hH : HLD T = HLD t) (hJ : ∀ d, JS g t G T d) (hF : ∀ q d, nd ≤ d → G.2.1 q d = g.2.1 q d) : BI R nd b G T ∧ ∀ d, d < nd → (T.2.1 0 d = 0 ↔ t.2.1 0 d = 0) := by
  have hl : ∀ d, d < nd → (T.2.1 0 d = 0 ↔ t.2.1 0 d = 0) := by
    intro d hd
    rw [lv_iff hM hd, lv_iff h.1 hd, h10, show T.2.1 2 d = t.2.1 2 d from congrArg Prod.fst (hS d)]
  obtain ⟨b1, b2, b3, b4, b5, b6, b7, b8⟩ := h
  refine ⟨⟨hM, by rw [hH]; exact b2, fun d hd q => by rw [hS d]; exact b3 d hd ((hl d hd).mp q), fun d e h1 h2 h3 h4 h5 => ?_, fun d e h1 h2 h3 h4 h5 => ?_, fun i j h1 h2 h3 h4 => b6 i j h1 h2 (fun q => h3 ((hl i h1).mpr q)) (fun q => h4 ((hl j h2).mpr q)), fun i => by rw [(hJ i).2.2.1]; exact b7 i, fun d hd => ?_⟩, hl⟩
  · rw [hS d, hS e]
    refine b4 d e h1 h2 ((hl d h1).mp h3) ((hl e h2).mp h4) ?_
    rw [← show T.2.1 2 d = t.2.1 2 d from congrArg Prod.fst (hS d), ← show T.2.1 2 e = t.2.1 2 e from congrArg Prod.fst (hS e)]
    exact h5
  · obtain ⟨Q, S, q1, q2, q3, q4, q5⟩ := b5 d e h1 h2 ((hl d h1).mp h3) (fun w => h4 ((fl_iff hM h2).mpr (by rw [h10]; exact (fl_iff b1 h2).mp w))) (by rw [← (hJ e).1]; exact h5)
    rw [hS d]
    exact ⟨Q, S, (hJ e).2.1.trans q1, q2, q3, q4, fun z => (q5 z).same (hJ e)⟩
  · rw [hF 5 d hd, hF 9 d hd, hF 10 d hd, hF 11 d hd]; exact b8 d hd
/-- all that a part of a call may end with -/
def FE (R nd b : Nat) (U : Int32) (nw : T4) (B : Int32) (z : Int32) (G : GS) (r : Int32) (T : MS) : Prop := (r = 1 ∧ G.1 1 = 1 ∧ BI R nd b G T ∧ (∀ d, d < nd → T.2.1 0 d = 0 → SUP T d = HLD T) ∧ HLD T = nw ∧ (G.1 3 = T.1 7 ∧ T.1 5 = U) ∧ G.1 3 = B ∧ T.1 0 = z) ∨ (r = 0 ∧ G.1 1 = 0 ∧ BI R nd b G T ∧ (T.1 5 = 0 ∧ T.1 7 = 0) ∧ T.1 0 = z)
theorem set_keep {n0 m0 f jo : Int32} (i : Nat) (h1 : ¬ i = 1) (h2 : ¬ i = 2) (h5 : ¬ i = 5) (h7 : ¬ i = 7) (h8 : i < 8 ∨ 11 < i) : ∀ (j k : Nat) (sq : Int32) (g1 : GS), (gg_4_setSuper_14 R nd n0 m0 f jo j k sq g1).1 i = g1.1 i := by
  intro j
  induction j with
  | zero => intro k sq g1; rfl
  | succ j ih =>
    intro k sq g1
    have e : (gf_4_spendWrite R nd g1).2.1 i = g1.1 i := spend_keep i h1 h2 h5 h7
    have e2 : ∀ k sq, (gf_1_takeSuper_d R nd (gf_4_spendWrite R nd g1).2 k sq n0 m0 f).1 i = g1.1 i := fun k sq => by
      rw [(takeSuper_eq (R := R) (nd := nd)).1]
      exact e
    rw [gg_4_setSuper_14]
    repeat' split
    all_goals first
      | rfl
      | exact ih _ _ _
      | exact (ih _ _ _).trans e
      | exact (ih _ _ _).trans (e2 _ _)
      | (unfold gf_3_tell_h; simp [gsi, va_up, show ¬ i = 8 by omega, show ¬ i = 9 by omega, show ¬ i = 10 by omega, show ¬ i = 11 by omega])
theorem SETEND {n0 m0 f : Int32} (hnd : nd ≤ 10) (hb : b ≤ 1000) (hB : BI R nd b g t) (hh : ∀ d, d < nd → t.2.1 0 d = 0 → SUP t d = HLD t) (hu : g.1 1 = 1) (h3 : g.1 3 = t.1 7 ∧ t.1 5 = U) (hnw : Geo9 R nd (b + 1) (t.1 1 + 1, n0, m0, f)) : FE R nd (b + 1) U (t.1 1 + 1, n0, m0, f) (g.1 3) (t.1 0) (gf_4_setSuper R nd g n0 m0 f (-1)) (mf_sets R nd t n0 m0 f (-1)).1 (mf_sets R nd t n0 m0 f (-1)).2 := by
  have hp : 0 < t.1 1 + 1 := hnw.pos (by omega)
  have key := sim_sets (R := R) (n0 := n0) (m0 := m0) (f := f) hnd (jo_m1 hnd) hB.1 hu h3 hp
  obtain ⟨f1, f2, f3, f4, f5⟩ := sets_sup (R := R) (t := t) (n0 := n0) (m0 := m0) (f := f) (jo := -1) hnd
  have gf := GF_set (R := R) (g := g) (n0 := n0) (m0 := m0) (f := f) (jo := -1) hnd
  have gk : (gf_4_setSuper R nd g n0 m0 f (-1)).1 3 = g.1 3 := set_keep 3 (by decide) (by decide) (by decide) (by decide) (by decide) _ _ _ _
  generalize mf_sets R nd t n0 m0 f (-1) = rT at key f1 f2 f3 f4 f5
  generalize gf_4_setSuper R nd g n0 m0 f (-1) = G at key gf gk
  have nojo : ∀ d, d < nd → ¬ nI d = (-1 : Int32) := fun d hd => nI_m1 (by omega)
  have js : ∀ d, JS g t G rT.2 d := fun d => ⟨by rw [f2 6 (by decide)], by rw [f2 7 (by decide)], by rw [f2 8 (by decide)], by rw [gf.1 6 (by decide)], by rw [gf.1 7 (by decide)], by rw [gf.1 8 (by decide)]⟩
  have fin : MM nd nd G rT.2 → HLD rT.2 = HLD t ∨ HLD rT.2 = (t.1 1 + 1, n0, m0, f) → BI R nd (b + 1) G rT.2 ∧ ∀ d, d < nd → (rT.2.2.1 0 d = 0 ↔ t.2.1 0 d = 0) := fun hm hH =>
    FIN hb hB hh hm hnw rfl (gf.1 10 (by decide)) (fun d => (f1 d).imp id (fun q => ⟨q.1, q.2.1, q.2.2.resolve_right (nojo d q.2.1)⟩)) hH (fun d _ => Or.inl (js d)) (fun i => by rw [f2 8 (by decide)]; exact hB.2.2.2.2.2.2.1 i) gf.2
  rcases key with ⟨d1, d2, d3, d4⟩ | ⟨d1, d2, d3, d4⟩
  · obtain ⟨z1, z2, z3⟩ := f3 (by rw [d1]; decide)
    obtain ⟨y1, y2⟩ := fin d3 (Or.inr z1)
    exact Or.inl ⟨d1, d2, y1, fun d hd q => (z3 d hd (Or.inl ((y2 d hd).mp q))).trans z1.symm, z1, d4, gk, f5⟩
  · exact Or.inr ⟨d1, d2, (fin d4 (Or.inl (f4 d1))).1, d3, f5⟩
/-! reshaped or not, critical or not, rebuilding or not -/
theorem resh_eq (h : BI R nd b g t) (hnd : nd ≤ 10) : gf_4_isReshaped R nd g = mf_isReshaped R nd t := by
  obtain ⟨S, N, M, F, e1, e2, e3, e4, f1, f2, f3, f4, r1, r2, r3, r4, r5, r6, r7⟩ := h.nums
  unfold gf_4_isReshaped mf_isReshaped
  rw [e2, e3, f2, f3]
  by_cases c : M = N
  · rw [c, if_pos (Int32.le_refl _), if_pos rfl]
  · rw [if_neg (nI_ge (show N < M by omega) (by omega)), if_neg (fun q => c (nI_inj (by omega) (by omega) q))]
theorem crit_eq (h : MM nd nd g t) : gf_4_isCritical R nd g = mf_isCritical R nd t := by
  obtain ⟨s1, s2, s3, s4, s5, s6, s7, s8, s9⟩ := h.1
  unfold gf_4_isCritical mf_isCritical
  rw [s7, s8, s9]
theorem rb_eq (hnd : nd ≤ 10) (h : BI R nd b g t) : (gf_4_rebuildingDisk R nd g = -1 ∧ mf_isRebuilding R nd t = 0) ∨ ∃ i, i < nd ∧ gf_4_rebuildingDisk R nd g = nI i ∧ mf_notLive R nd t = nI i ∧ ¬ mf_isRebuilding R nd t = 0 ∧ t.2.1 0 i = 2 := by
  unfold gf_4_rebuildingDisk
  rcases nl_eq (R := R) hnd h.1 h.2.2.2.2.2.1 with ⟨n1, n2, n3⟩ | ⟨i, hi, n1, n2, n3⟩
  · rw [if_pos n1]
    exact Or.inl ⟨rfl, (mf_isRebuilding_iff hnd).mpr fun k hk => by rw [n3 k hk]; decide⟩
  · rw [n1, if_neg (nI_m1 (by omega)), nI_clamp (by omega)]
    have rb := rebg_d (R := R) (nd := nd) (h.1.2.1 i hi) (h.1.2.2.1 i hi (by omega))
    by_cases c : t.2.1 0 i = 2
    · rw [if_neg (fun q => rb.mp q c)]
      exact Or.inr ⟨i, hi, rfl, n2, fun q => (mf_isRebuilding_iff hnd).mp q i hi c, c⟩
    · rw [if_pos (rb.mpr c)]
      refine Or.inl ⟨rfl, (mf_isRebuilding_iff hnd).mpr fun k hk q => ?_⟩
      have : k = i := h.2.2.2.2.2.1 k i hk hi (by rw [q]; decide) n3
      subst this
      exact c q
theorem fe_inv {b2 : Nat} {nw : T4} {z r : Int32} {G : GS} {T : MS} (hB2 : ∃ B : Nat, B < R ∧ g.1 3 = nI B) (h : FE R nd b2 1 nw (g.1 3) z G r T) : INV R nd b2 G T := by
  obtain ⟨B, hB, eB⟩ := hB2
  rcases h with ⟨d1, d2, d3, d4, d5, d6, d7, d8⟩ | ⟨d1, d2, d3, d4, d5⟩
  · exact Or.inl ⟨d3, d2, d6.2, d6.1, ⟨B, hB, by rw [← d6.1, d7, eB]⟩, d4⟩
  · exact Or.inr ⟨d3, d2, d4⟩
theorem op_grow (hn : 3 ≤ nd ∧ nd ≤ 10) (hR : 2 ≤ R ∧ R ≤ 48) (hb : b ≤ 1000) (h : INV R nd b g t) (y : Int64) :
    mf_thrown R nd (mf_grow R nd t).2 = (lr_grow R nd g y).1 ∧ ((lr_grow R nd g y).1 = 0 → (lr_grow R nd g y).2.2.2 = ((mf_grow R nd t).1).toInt64) ∧ (lr_grow R nd g y).2.1 = nd ∧ INV R nd (b + 1) (lr_grow R nd g y).2.2.1 (mf_grow R nd t).2 := by
  unfold lr_grow mf_grow mf_thrown gf_4_grow
  rcases h with h | h
  · obtain ⟨hB, hu, hu2, h3, ⟨B, hB1, hB2⟩, hh⟩ := id h
    have hU : ¬ g.1 1 = 0 := by rw [hu]; decide
    have hU2 : ¬ t.1 5 = 0 := by rw [hu2]; decide
    have hth := INV.th (v := 0) (Or.inl h)
    rw [if_neg hU, if_neg hU2]
    obtain ⟨S, N, M, F, e1, e2, e3, e4, f1, f2, f3, f4, r1, r2, r3, r4, r5, r6, r7⟩ := hB.nums
    have rs := resh_eq (R := R) (show BI R nd b g (si t 0 0) from hB) hn.2
    by_cases cM : M = nd
    · have c1 : nI nd ≤ g.1 10 := by rw [f3, cM]; exact Int32.le_refl _
      rw [if_pos c1]
      by_cases cN : nI nd = t.1 2
      · rw [if_pos cN]
        exact ⟨rfl, fun _ => rfl, rfl, hth⟩
      · rw [if_neg cN]
        have : ¬ mf_isReshaped R nd (si t 0 0) = 0 := by
          unfold mf_isReshaped
          rw [if_neg (show ¬ (si t 0 0).1 3 = (si t 0 0).1 2 from fun q => cN (by rw [← cM, ← e3]; exact q))]
          decide
        rw [if_neg this]
        exact ⟨rfl, fun _ => rfl, rfl, hth⟩
    · have c1 : ¬ nI nd ≤ g.1 10 := by rw [f3]; exact nI_ge (by omega) (by omega)
      have cN : ¬ nI nd = t.1 2 := by rw [e2]; exact fun q => by have := nI_inj (by omega) (by omega) q; omega
      rw [if_neg c1, if_neg cN, rs]
      by_cases c2 : mf_isReshaped R nd (si t 0 0) = 0
      · rw [if_pos c2, if_pos c2]
        rcases rb_eq (R := R) hn.2 (show BI R nd b g (si t 0 0) from hB) with ⟨x1, x2⟩ | ⟨i, hi, x1, x2, x3, x4⟩
        · rw [if_pos x1, if_pos x2]
          have nw9 : Geo9 R nd (b + 1) ((si t 0 0).1 1 + 1, t.1 2, nI nd, 0) := by
            refine ⟨S + 1, N, nd, 0, ?_, by omega, by omega, r3, by omega, Nat.le_refl _, by omega, fun _ => rfl⟩
            show (t.1 1 + 1, t.1 2, nI nd, 0) = _
            rw [e1, e2, nI_1, nI_0]
          have key := SETEND (R := R) (g := g) (t := si t 0 0) (U := 1) hn.2 hb hB hh hu ⟨h3, hu2⟩ nw9
          have g9 : g.1 9 = t.1 2 := hB.1.1.2.2.2.2.2.2.1
          rw [g9]
          have hi := fe_inv ⟨B, hB1, h3.trans hB2⟩ key
          generalize mf_sets R nd (si t 0 0) (t.1 2) (nI nd) 0 (-1) = rT at key hi
          generalize gf_4_setSuper R nd g (t.1 2) (nI nd) 0 (-1) = G at key hi
          rcases key with ⟨d1, d2, d3, d4, d5, d6, d7, d8⟩ | ⟨d1, d2, d3, d4, d5⟩
          · rw [d1, d2, if_neg (show ¬ (1 : Int32) = 0 by decide), if_neg (show ¬ (1 : Int32) = 0 by decide)]
            exact ⟨d8, fun _ => by rw [show (G.1 10, G).1 = rT.2.1 3 from d3.1.1.2.2.2.2.2.2.2.1], rfl, hi⟩
          · rw [d1, d2, if_pos rfl, if_pos rfl]
            exact ⟨d5, fun _ => rfl, rfl, hi⟩
        · rw [if_neg (show ¬ gf_4_rebuildingDisk R nd g = -1 by rw [x1]; exact nI_m1 (by omega)), if_neg x3]
          exact ⟨rfl, fun _ => rfl, rfl, hth⟩
      · rw [if_neg c2, if_neg c2]
        exact ⟨rfl, fun _ => rfl, rfl, hth⟩
  · rw [if_pos h.2.1, if_pos h.2.2.1]
    exact ⟨rfl, fun q => absurd (show (1 : Int32) = 0 from q) (by decide), rfl, INV.th (Or.inr h)⟩
end SIMN
