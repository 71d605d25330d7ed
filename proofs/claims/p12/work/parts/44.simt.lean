/-! ===== open ===== -/
section SIMT
variable {R nd b : Nat} {g : GS} {t : MS} {U : Int32}
theorem MM_lt {al : Nat} {g1 : GS} (h1 : ∀ z, z < 12 → g1.1 z = g.1 z) (h2 : g1.2.1 = g.2.1) (h : MM al nd g t) : MM al nd g1 t := by
  unfold MM sE dE stE at *
  rw [h2, h1 2 (by decide), h1 4 (by decide), h1 5 (by decide), h1 6 (by decide), h1 7 (by decide), h1 8 (by decide), h1 9 (by decide), h1 10 (by decide), h1 11 (by decide)]
  exact h
theorem BI_jo {G : GS} {T : MS} (h : BI R nd b g t) (hh : ∀ d, d < nd → t.2.1 0 d = 0 → SUP t d = HLD t) (hM : MM nd nd G T) (h10 : G.2.1 10 = g.2.1 10) (hS : ∀ d, SUP T d = SUP t d) (hH : HLD T = HLD t) (hJ : ∀ d, JS g t G T d ∨ (T.2.1 7 d = t.1 1 ∧ JG R G T d (HLD t))) (hV : ∀ i, vp_in (T.2.1 8 i) 432) (hF : ∀ q d, nd ≤ d → G.2.1 q d = g.2.1 q d) : BI R nd b G T ∧ ∀ d, d < nd → (T.2.1 0 d = 0 ↔ t.2.1 0 d = 0) := by
  have hl : ∀ d, d < nd → (T.2.1 0 d = 0 ↔ t.2.1 0 d = 0) := by
    intro d hd
    rw [lv_iff hM hd, lv_iff h.1 hd, h10, show T.2.1 2 d = t.2.1 2 d from congrArg Prod.fst (hS d)]
  obtain ⟨b1, b2, b3, b4, b5, b6, b7, b8⟩ := h
  refine ⟨⟨hM, by rw [hH]; exact b2, fun d hd q => by rw [hS d]; exact b3 d hd ((hl d hd).mp q), fun d e h1 h2 h3 h4 h5 => ?_, fun d e h1 h2 h3 h4 h5 => ?_, fun i j h1 h2 h3 h4 => b6 i j h1 h2 (fun q => h3 ((hl i h1).mpr q)) (fun q => h4 ((hl j h2).mpr q)), hV, fun d hd => ?_⟩, hl⟩
  · rw [hS d, hS e]
    refine b4 d e h1 h2 ((hl d h1).mp h3) ((hl e h2).mp h4) ?_
    rw [← show T.2.1 2 d = t.2.1 2 d from congrArg Prod.fst (hS d), ← show T.2.1 2 e = t.2.1 2 e from congrArg Prod.fst (hS e)]
    exact h5
  · rcases hJ e with q | ⟨q1, q2⟩
    · obtain ⟨Q, S, q1, q2, q3, q4, q5⟩ := b5 d e h1 h2 ((hl d h1).mp h3) (fun w => h4 ((fl_iff hM h2).mpr (by rw [h10]; exact (fl_iff b1 h2).mp w))) (by rw [← q.1]; exact h5)
      rw [hS d]
      exact ⟨Q, S, q.2.1.trans q1, q2, q3, q4, fun z => (q5 z).same q⟩
    · rw [hS d, hh d h1 ((hl d h1).mp h3)]
      obtain ⟨S, N, M, F, e0, r1, r2, -⟩ := b2
      have es : t.1 1 = nI S := congrArg Prod.fst e0
      exact ⟨S, S, q1.trans es, es, Nat.le_refl _, r2, fun _ => q2⟩
  · rw [hF 5 d hd, hF 9 d hd, hF 10 d hd, hF 11 d hd]; exact b8 d hd
def cT (R nd : Nat) (a0 a4 : Int32) (g : GS) : Int32 × GS := if (gf_4_resumeReshaping R nd g).1 = 0 then (if (gf_4_setSuper R nd (gf_4_resumeReshaping R nd g).2 ((gf_4_resumeReshaping R nd g).2.1 9) ((gf_4_resumeReshaping R nd g).2.1 10) ((gf_4_resumeReshaping R nd g).2.1 11) (-1)).1 1 = 0 then (0, gf_4_setSuper R nd (gf_4_resumeReshaping R nd g).2 ((gf_4_resumeReshaping R nd g).2.1 9) ((gf_4_resumeReshaping R nd g).2.1 10) ((gf_4_resumeReshaping R nd g).2.1 11) (-1)) else (a0, gf_4_setSuper R nd (gf_4_resumeReshaping R nd g).2 ((gf_4_resumeReshaping R nd g).2.1 9) ((gf_4_resumeReshaping R nd g).2.1 10) ((gf_4_resumeReshaping R nd g).2.1 11) (-1))) else if (gf_4_resumeReshaping R nd g).2.1 1 = 0 then (0, (gf_4_resumeReshaping R nd g).2) else (a4, (gf_4_resumeReshaping R nd g).2)
theorem fe_open {b2 : Nat} {nw : T4} {z r B : Int32} {G : GS} {T : MS} (hR : 2 ≤ R) (hB : B = 0) (h : FE R nd b2 0 nw B z G r T) : (r = 1 → G.1 1 = 1 ∧ INV R nd b2 G (si T 5 1)) ∧ (r = 0 → G.1 1 = 0 ∧ INV R nd b2 G T) := by
  rcases h with ⟨d1, d2, d3, d4, d5, d6, d7, d8⟩ | ⟨d1, d2, d3, d4, d5⟩
  · exact ⟨fun _ => ⟨d2, Or.inl ⟨d3, d2, rfl, d6.1, ⟨0, by omega, by show T.1 7 = _; rw [← d6.1, d7, hB]; rfl⟩, d4⟩⟩, fun q => absurd (d1.symm.trans q) (by decide)⟩
  · exact ⟨fun q => absurd (d1.symm.trans q) (by decide), fun _ => ⟨d2, Or.inr ⟨d3, d2, d4⟩⟩⟩
/-- the supers set as they are -/
theorem oSet {a0 : Int32} {z : Int32} (hn : 3 ≤ nd ∧ nd ≤ 10) (hR : 2 ≤ R ∧ R ≤ 48) (hb : b ≤ 1000) (hB : BI R nd b g t) (hh : ∀ d, d < nd → t.2.1 0 d = 0 → SUP t d = HLD t) (hu : g.1 1 = 1) (h3 : g.1 3 = t.1 7 ∧ t.1 5 = 0) (hz : g.1 3 = 0) :
    (if (gf_4_setSuper R nd g (g.1 9) (g.1 10) (g.1 11) (-1)).1 1 = 0 then ((0 : Int32), gf_4_setSuper R nd g (g.1 9) (g.1 10) (g.1 11) (-1)) else (a0, gf_4_setSuper R nd g (g.1 9) (g.1 10) (g.1 11) (-1))).1 = (oS R nd a0 t).1 ∧ INV R nd (b + 1) (if (gf_4_setSuper R nd g (g.1 9) (g.1 10) (g.1 11) (-1)).1 1 = 0 then ((0 : Int32), gf_4_setSuper R nd g (g.1 9) (g.1 10) (g.1 11) (-1)) else (a0, gf_4_setSuper R nd g (g.1 9) (g.1 10) (g.1 11) (-1))).2 (oS R nd a0 t).2 := by
  unfold oS
  rw [hB.1.1.2.2.2.2.2.2.1, hB.1.1.2.2.2.2.2.2.2.1, hB.1.1.2.2.2.2.2.2.2.2]
  have key := SETEND (R := R) (n0 := t.1 2) (m0 := t.1 3) (f := t.1 4) hn.2 hb hB hh hu h3 hB.2.1.up
  generalize mf_sets R nd t (t.1 2) (t.1 3) (t.1 4) (-1) = rT at key ⊢
  generalize gf_4_setSuper R nd g (t.1 2) (t.1 3) (t.1 4) (-1) = G at key ⊢
  obtain ⟨k1, k2⟩ := fe_open hR.1 hz key
  have r01 : rT.1 = 1 ∨ rT.1 = 0 := key.imp (fun q => q.1) (fun q => q.1)
  rcases r01 with e | e
  · obtain ⟨u1, u2⟩ := k1 e
    rw [e, u1, if_neg (show ¬ (1 : Int32) = 0 by decide), if_neg (show ¬ (1 : Int32) = 0 by decide)]
    exact ⟨rfl, u2⟩
  · obtain ⟨u1, u2⟩ := k2 e
    rw [e, u1, if_pos rfl, if_pos rfl]
    exact ⟨rfl, u2⟩
theorem oEND {a0 a4 hbk : Int32} (hn : 3 ≤ nd ∧ nd ≤ 10) (hR : 2 ≤ R ∧ R ≤ 48) (hb : b ≤ 1000) (hB : BI R nd b g t) (hh : ∀ d, d < nd → t.2.1 0 d = 0 → SUP t d = HLD t) (hu : g.1 1 = 1) (h3 : g.1 3 = t.1 7 ∧ t.1 5 = 0) (hz : g.1 3 = 0) (hbk9 : HB nd nd t hbk) :
    (cT R nd a0 a4 g).1 = (oT R nd a0 a4 t hbk).1 ∧ INV R nd (b + 1) (cT R nd a0 a4 g).2 (oT R nd a0 a4 t hbk).2 := by
  obtain ⟨S, N, M, F, e1, e2, e3, e4, f1, f2, f3, f4, r1, r2, r3, r4, r5, r6, r7⟩ := hB.nums
  have rs := resh_eq (R := R) hB hn.2
  unfold cT oT gf_4_resumeReshaping
  rw [rs]
  by_cases c0 : mf_isReshaped R nd t = 0
  · rw [if_pos c0, if_pos c0, if_pos rfl]
    exact oSet (z := 0) hn hR hb hB hh hu h3 hz
  · rw [if_neg c0, if_neg c0]
    have hNM : N < M := by
      rcases Nat.lt_or_ge N M with q | q
      · exact q
      · exfalso
        apply c0
        unfold mf_isReshaped
        rw [if_pos (show t.1 3 = t.1 2 by rw [e2, e3, show M = N by omega])]
    obtain ⟨a1, a2, a3⟩ := rec_l (R := R) hn.2 hB.1 (nd + 1) 0 (by omega) (by omega)
    have a1 : (gf_4_recallBackup R nd g).2.1 = g.1 := a1
    have a2 : (gf_4_recallBackup R nd g).2.2.1 = g.2.1 := a2
    have hB2 : BI R nd b (gf_4_recallBackup R nd g).2 t := BI_ct a1 a2 hB
    rcases hbk9 with ⟨hb0, hb1⟩ | ⟨hb0, d, hd, hb1, hb2⟩
    · have q0 : (gf_4_recallBackup R nd g).1 = 0 := by
        rcases a3 with q | ⟨-, d, hd, q2, q3⟩
        · exact q.1
        · exact absurd q3 (hb1 d hd hd q2)
      rw [if_pos q0, if_pos hb0, crit_eq (R := R) hB2.1]
      generalize (gf_4_recallBackup R nd g).2 = g2 at a1 a2 hB2
      by_cases cc : mf_isCritical R nd t = 0
      · rw [if_pos cc, if_pos cc, if_neg (show ¬ (1 : Int32) = 0 by decide)]
        obtain ⟨gc1, gc2⟩ := gather_ct (R := R) (nd := nd) (g := g2)
        have hB3 : BI R nd b (gf_4_gatherRowValues R nd g2) t := BI_ct gc1 gc2 hB2
        have hu3 : (gf_4_gatherRowValues R nd g2).1 1 = 1 := by rw [gc1, a1]; exact hu
        have h33 : (gf_4_gatherRowValues R nd g2).1 3 = g.1 3 := by rw [gc1, a1]
        dsimp only
        generalize gf_4_gatherRowValues R nd g2 = g3 at hB3 hu3 h33
        obtain ⟨nw, k1, k2⟩ := MOVEEND (R := R) hn.2 hR hb hB3 hh hu3 (by rw [h33]; exact h3) e2 e3 e4 hNM r3 r5 r6
        unfold oM
        rcases k2 with ⟨k2, k3⟩ | ⟨k2, k3⟩
        · obtain ⟨u1, u2⟩ := (fe_open hR.1 (by rw [h33]; exact hz) k3).1 rfl
          rw [u1, if_neg (show ¬ (1 : Int32) = 0 by decide), if_neg (by rw [k2]; split <;> decide)]
          exact ⟨rfl, u2⟩
        · obtain ⟨u1, u2⟩ := (fe_open hR.1 (by rw [h33]; exact hz) k3).2 rfl
          rw [u1, if_pos rfl, k2, if_pos rfl]
          exact ⟨rfl, u2⟩
      · rw [if_neg cc, if_neg cc, if_pos rfl]
        dsimp only
        exact oSet (z := 0) hn hR hb hB2 hh (by rw [a1]; exact hu) (by rw [a1]; exact h3) (by rw [a1]; exact hz)
    · have q0 : (gf_4_recallBackup R nd g).1 = 1 := by
        rcases a3 with ⟨-, q⟩ | q
        · exact absurd hb2 (q d (by omega) hd hb1)
        · exact q.1
      rw [q0, if_neg (show ¬ (1 : Int32) = 0 by decide), if_neg (show ¬ hbk = 0 by rw [hb0]; decide), if_neg (show ¬ (1 : Int32) = 0 by decide)]
      dsimp only
      generalize (gf_4_recallBackup R nd g).2 = g2 at a1 a2 hB2
      obtain ⟨nw, k1, k2⟩ := BKMOVE (R := R) hn.2 hR hb hB2 hh (by rw [a1]; exact hu) (by rw [a1]; exact h3) e2 e3 e4 hNM r3 r5 r6
      have hz2 : g2.1 3 = 0 := by rw [a1]; exact hz
      unfold oB oM
      rcases k2 with ⟨k2, k3⟩ | ⟨k2, ⟨k4, k3⟩ | ⟨k4, k3⟩⟩
      · obtain ⟨u1, u2⟩ := (fe_open hR.1 hz2 k3).2 rfl
        rw [u1, if_pos rfl, if_pos k2]
        exact ⟨rfl, u2⟩
      · obtain ⟨u1, u2⟩ := (fe_open hR.1 hz2 k3).1 rfl
        rw [u1, if_neg (show ¬ (1 : Int32) = 0 by decide), if_neg k2, if_neg (by rw [k4]; split <;> decide)]
        exact ⟨rfl, u2⟩
      · obtain ⟨u1, u2⟩ := (fe_open hR.1 hz2 k3).2 rfl
        rw [u1, if_pos rfl, if_neg k2, k4, if_pos rfl]
        exact ⟨rfl, u2⟩
end SIMT
