/-! ===== the calls: step, rebuild ===== -/
section SIMO
variable {R nd b : Nat} {g : GS} {t : MS} {U : Int32}
theorem keep_mid {G : GS} {T : MS} (hB : BI R nd b g t) (hM : MM nd nd G T) (gf : GF nd (fun q => q = 9 ∨ q = 11) g G) (kp : ∀ q, 2 ≤ q → ¬ q = 9 → T.2.1 q = t.2.1 q) (hH : HLD T = HLD t) : BI R nd b G T ∧ ∀ d, d < nd → (T.2.1 0 d = 0 ↔ t.2.1 0 d = 0) := by
  refine BI_mid hB hM (gf.1 10 (by decide)) (fun d => ?_) hH (fun d => ⟨by rw [kp 6 (by decide) (by decide)], by rw [kp 7 (by decide) (by decide)], by rw [kp 8 (by decide) (by decide)], by rw [gf.1 6 (by decide)], by rw [gf.1 7 (by decide)], by rw [gf.1 8 (by decide)]⟩) gf.2
  unfold SUP
  rw [kp 2 (by decide) (by decide), kp 3 (by decide) (by decide), kp 4 (by decide) (by decide), kp 5 (by decide) (by decide)]
theorem BI_steps (h : BI R nd b g t) : BI R nd b (gsi g 6 (g.1 6 + 1)) (si t 10 (t.1 10 + 1)) := by
  obtain ⟨⟨⟨s1, s2, s3, s4, s5, s6, s7, s8, s9⟩, m⟩, r⟩ := h
  refine ⟨⟨⟨s1, s2, s3, ?_, s5, s6, s7, s8, s9⟩, m⟩, r⟩
  show g.1 6 + 1 = t.1 10 + 1
  rw [s4]
/-- a row is moved, and its super set -/
theorem MOVEEND {N M F : Nat} (hnd : nd ≤ 10) (hRR : 2 ≤ R ∧ R ≤ 48) (hb : b ≤ 1000) (hB : BI R nd b g t) (hh : ∀ d, d < nd → t.2.1 0 d = 0 → SUP t d = HLD t) (hu : g.1 1 = 1) (h3 : g.1 3 = t.1 7 ∧ t.1 5 = U) (hn : t.1 2 = nI N) (hm : t.1 3 = nI M) (hf : t.1 4 = nI F) (hNM : N < M) (hN3 : 3 ≤ N) (hMn : M ≤ nd) (hF : F < R) :
    ∃ nw : T4, ((F + 1 = R ∧ nw.2 = (nI M, nI M, 0)) ∨ (¬ F + 1 = R ∧ nw.2 = (nI N, nI M, nI (F + 1)))) ∧
    (((mf_moves R nd t).1 = (if F + 1 = R then 2 else 1) ∧ FE R nd (b + 1) U nw (g.1 3) (t.1 0) (gf_4_moveRow R nd g) 1 (mf_moves R nd t).2) ∨ ((mf_moves R nd t).1 = 0 ∧ FE R nd (b + 1) U nw (g.1 3) (t.1 0) (gf_4_moveRow R nd g) 0 (mf_moves R nd t).2)) := by
  obtain ⟨S, N9, M9, F9, e1, e2, e3, e4, f1, f2, f3, f4, r1, r2, r3, r4, r5, r6, r7⟩ := hB.nums
  have g9 : g.1 9 = nI N := hB.1.1.2.2.2.2.2.2.1.trans hn
  have g10 : g.1 10 = nI M := hB.1.1.2.2.2.2.2.2.2.1.trans hm
  have g11 : g.1 11 = nI F := hB.1.1.2.2.2.2.2.2.2.2.trans hf
  obtain ⟨a2, e⟩ := mr_eq (R := R) (nd := nd) (g := g) (row := nI F) (m0 := nI M)
  have hc : (nI M).toNatClampNeg = M := nI_clamp (by omega)
  rw [hc] at e
  have key := sim_mr_l (R := R) (U := U) hnd hRR.2 hMn hF 11 0 (M + 1) a2 (gf_4_parityDisk R nd g (nI M) (nI F)) g t (by omega) (by omega) (by omega) hB.1 hu h3 hm hf
  rw [← e] at key
  have w9 : (gf_4_writeMovedRow R nd g (nI F) (nI M)).1 9 = nI N := by rw [e, mr_keep_l 9 (by decide) (by decide) (by decide) (by decide)]; exact g9
  have w3 : (gf_4_writeMovedRow R nd g (nI F) (nI M)).1 3 = g.1 3 := by rw [e, mr_keep_l 3 (by decide) (by decide) (by decide) (by decide)]
  have gfW : GF nd (fun q => q = 9 ∨ q = 11) g (gf_4_writeMovedRow R nd g (nI F) (nI M)) := (GF_mr hnd).mo (fun q h => Or.inr h)
  unfold gf_4_moveRow mf_moves
  rw [g11, g10, w9]
  generalize gf_4_writeMovedRow R nd g (nI F) (nI M) = W at key w3 gfW
  rcases key with ⟨T, b1, b2, b3, b4, b5⟩ | ⟨b1, b2, b3, b4, b5⟩
  · have T0 : T.1 0 = t.1 0 := b5.1 0 (by decide)
    have T1 : T.1 1 = nI S := (b5.1 1 (by decide)).trans e1
    have T2 : T.1 2 = nI N := (b5.1 2 (by decide)).trans hn
    have T3 : T.1 3 = nI M := (b5.1 3 (by decide)).trans hm
    have T4 : T.1 4 = nI F := (b5.1 4 (by decide)).trans hf
    have hH : HLD T = HLD t := by
      unfold HLD
      rw [b5.1 1 (by decide), b5.1 2 (by decide), b5.1 3 (by decide), b5.1 4 (by decide)]
    have hk : ∀ q, 2 ≤ q → T.2.1 q = t.2.1 q := fun q h2 => b5.2.1 q (by simp only [aPok]; omega)
    obtain ⟨y1, y2⟩ := keep_mid hB b3 gfW (fun q h2 _ => hk q h2) hH
    have hhT : ∀ d, d < nd → T.2.1 0 d = 0 → SUP T d = HLD T := fun d hd q => by
      rw [hH, ← hh d hd ((y2 d hd).mp q)]
      unfold SUP
      rw [hk 2 (by decide), hk 3 (by decide), hk 4 (by decide), hk 5 (by decide)]
    rw [b1, mg_moves_2, T3, T4, T2, if_pos (Int32.le_refl _), nI_1]
    by_cases c : F + 1 = R
    · refine ⟨(T.1 1 + 1, nI M, nI M, 0), Or.inl ⟨c, rfl⟩, ?_⟩
      rw [if_pos (show nI (F + 1) = nI R by rw [c]), if_pos (show nI R ≤ nI (F + 1) by rw [c]; exact Int32.le_refl _), if_pos c]
      have nw9 : Geo9 R nd (b + 1) (T.1 1 + 1, nI M, nI M, 0) := ⟨S + 1, M, M, 0, by rw [T1, nI_1, nI_0], by omega, by omega, by omega, Nat.le_refl _, hMn, by omega, fun _ => rfl⟩
      have k2 := SETEND (R := R) (U := U) hnd hb y1 hhT b2 b4 nw9
      rw [w3, T0] at k2
      generalize mf_sets R nd T (nI M) (nI M) 0 (-1) = rT at k2 ⊢
      generalize gf_4_setSuper R nd W (nI M) (nI M) 0 (-1) = G at k2 ⊢
      rcases k2 with ⟨d1, d2, d3, d4, d5, d6, d7, d8⟩ | ⟨d1, d2, d3, d4, d5⟩
      · rw [d1, d2, if_neg (show ¬ (1 : Int32) = 0 by decide), if_neg (show ¬ (1 : Int32) = 0 by decide)]
        exact Or.inl ⟨rfl, Or.inl ⟨rfl, d2, BI_steps d3, d4, d5, d6, d7, d8⟩⟩
      · rw [d1, d2, if_pos rfl, if_pos rfl]
        exact Or.inr ⟨rfl, Or.inr ⟨rfl, d2, d3, d4, d5⟩⟩
    · have c1 : ¬ nI (F + 1) = nI R := fun q => c (nI_inj (by omega) (by omega) q)
      have c2 : ¬ nI R ≤ nI (F + 1) := nI_ge (by omega) (by omega)
      refine ⟨(T.1 1 + 1, nI N, nI M, nI (F + 1)), Or.inr ⟨c, rfl⟩, ?_⟩
      rw [if_neg c1, if_neg c2, if_neg c]
      have nw9 : Geo9 R nd (b + 1) (T.1 1 + 1, nI N, nI M, nI (F + 1)) := ⟨S + 1, N, M, F + 1, by rw [T1, nI_1], by omega, by omega, hN3, by omega, hMn, by omega, fun q => by omega⟩
      have k2 := SETEND (R := R) (U := U) hnd hb y1 hhT b2 b4 nw9
      rw [w3, T0] at k2
      generalize mf_sets R nd T (nI N) (nI M) (nI (F + 1)) (-1) = rT at k2 ⊢
      generalize gf_4_setSuper R nd W (nI N) (nI M) (nI (F + 1)) (-1) = G at k2 ⊢
      rcases k2 with ⟨d1, d2, d3, d4, d5, d6, d7, d8⟩ | ⟨d1, d2, d3, d4, d5⟩
      · rw [d1, d2, if_neg (show ¬ (1 : Int32) = 0 by decide), if_neg (show ¬ (1 : Int32) = 0 by decide)]
        exact Or.inl ⟨rfl, Or.inl ⟨rfl, d2, BI_steps d3, d4, d5, d6, d7, d8⟩⟩
      · rw [d1, d2, if_pos rfl, if_pos rfl]
        exact Or.inr ⟨rfl, Or.inr ⟨rfl, d2, d3, d4, d5⟩⟩
  · have hH : HLD (mg_moves_2 R nd 11 0 t).2 = HLD t := by
      unfold HLD
      rw [b5.1 1 (by decide), b5.1 2 (by decide), b5.1 3 (by decide), b5.1 4 (by decide)]
    have y1 := (keep_mid hB b4 gfW (fun q h2 _ => b5.2.1 q (by simp only [aPok]; omega)) hH).1
    have fe : ∀ nw, FE R nd (b + 1) U nw (g.1 3) (t.1 0) W 0 (mg_moves_2 R nd 11 0 t).2 := fun nw => Or.inr ⟨rfl, b2, y1.mono, b3, b5.1 0 (by decide)⟩
    simp only [dn_set b2, if_pos b2, ite_self]
    by_cases c : F + 1 = R
    · exact ⟨(0, nI M, nI M, 0), Or.inl ⟨c, rfl⟩, Or.inr ⟨b1, fe _⟩⟩
    · exact ⟨(0, nI N, nI M, nI (F + 1)), Or.inr ⟨c, rfl⟩, Or.inr ⟨b1, fe _⟩⟩
/-! the values of a row: no control -/
theorem gather_l : ∀ (j k : Nat) (fs0 : Int32) (g1 : GS), (gg_4_gatherRowValues_20 R nd j k fs0 g1).1 = g1.1 ∧ (gg_4_gatherRowValues_20 R nd j k fs0 g1).2.1 = g1.2.1 := by
  intro j
  induction j with
  | zero => intro k fs0 g1; exact ⟨rfl, rfl⟩
  | succ j ih =>
    intro k fs0 g1
    rw [gg_4_gatherRowValues_20]
    repeat' split
    all_goals first | exact ⟨rfl, rfl⟩ | exact ih _ _ _
theorem gather_ct : (gf_4_gatherRowValues R nd g).1 = g.1 ∧ (gf_4_gatherRowValues R nd g).2.1 = g.2.1 := gather_l _ _ _ _
theorem BI_ct {G : GS} (h1 : G.1 = g.1) (h2 : G.2.1 = g.2.1) (h : BI R nd b g t) : BI R nd b G t := (BI_mid h (MM_ext h1 h2 h.1) (by rw [h2]) (fun _ => rfl) rfl (fun d => ⟨rfl, rfl, rfl, by rw [h2], by rw [h2], by rw [h2]⟩) (fun q d _ => by rw [h2])).1
theorem bk_keep (i : Nat) (h1 : ¬ i = 1) (h2 : ¬ i = 2) (h5 : ¬ i = 5) (h7 : ¬ i = 7) : ∀ (j k : Nat) (g1 : GS), (gg_4_writeBackups_2 R nd j k g1).1 i = g1.1 i := by
  intro j
  induction j with
  | zero => intro k g1; rfl
  | succ j ih =>
    intro k g1
    rw [gg_4_writeBackups_2]
    by_cases c : nI nd ≤ nI k
    · rw [if_pos c]
    · rw [if_neg c]
      by_cases c1 : gf_4_isLive R nd g1 (nI k) = 0
      · rw [if_pos c1]; exact ih _ _
      · rw [if_neg c1]
        by_cases c2 : (gf_4_spendWrite R nd g1).1 = 0
        · rw [if_pos c2]; exact (ih _ _).trans (spend_keep i h1 h2 h5 h7)
        · rw [if_neg c2, ih, (takeBackup_eq (R := R) (nd := nd)).1]; exact spend_keep i h1 h2 h5 h7
/-- the backups, then the row -/
theorem BKMOVE {N M F : Nat} (hnd : nd ≤ 10) (hRR : 2 ≤ R ∧ R ≤ 48) (hb : b ≤ 1000) (hB : BI R nd b g t) (hh : ∀ d, d < nd → t.2.1 0 d = 0 → SUP t d = HLD t) (hu : g.1 1 = 1) (h3 : g.1 3 = t.1 7 ∧ t.1 5 = U) (hn : t.1 2 = nI N) (hm : t.1 3 = nI M) (hf : t.1 4 = nI F) (hNM : N < M) (hN3 : 3 ≤ N) (hMn : M ≤ nd) (hF : F < R) :
    ∃ nw : T4, ((F + 1 = R ∧ nw.2 = (nI M, nI M, 0)) ∨ (¬ F + 1 = R ∧ nw.2 = (nI N, nI M, nI (F + 1)))) ∧
    (((mf_backups R nd t).1 = 0 ∧ FE R nd (b + 1) U nw (g.1 3) (t.1 0) (gf_4_moveRow R nd (gf_4_writeBackups R nd g)) 0 (mf_backups R nd t).2) ∨ (¬ (mf_backups R nd t).1 = 0 ∧ (((mf_moves R nd (mf_backups R nd t).2).1 = (if F + 1 = R then 2 else 1) ∧ FE R nd (b + 1) U nw (g.1 3) (t.1 0) (gf_4_moveRow R nd (gf_4_writeBackups R nd g)) 1 (mf_moves R nd (mf_backups R nd t).2).2) ∨ ((mf_moves R nd (mf_backups R nd t).2).1 = 0 ∧ FE R nd (b + 1) U nw (g.1 3) (t.1 0) (gf_4_moveRow R nd (gf_4_writeBackups R nd g)) 0 (mf_moves R nd (mf_backups R nd t).2).2)))) := by
  have kp := mf_backups_keep (R := R) (nd := nd) t
  have hk : ∀ q, 2 ≤ q → ¬ q = 9 → (mf_backups R nd t).2.2.1 q = t.2.1 q := fun q h2 h9 => kp.2.1 q (by omega)
  have hH : HLD (mf_backups R nd t).2 = HLD t := by
    unfold HLD
    rw [kp.1 1 (by decide), kp.1 2 (by decide), kp.1 3 (by decide), kp.1 4 (by decide)]
  have gf : GF nd (fun q => q = 9 ∨ q = 11) g (gf_4_writeBackups R nd g) := GF_bk hnd
  have k3 : (gf_4_writeBackups R nd g).1 3 = g.1 3 := bk_keep 3 (by decide) (by decide) (by decide) (by decide) _ _ _
  rcases sim_bk (R := R) hnd hB.1 hu h3 with ⟨d1, d2, d3, d4⟩ | ⟨d1, d2, d3, d4⟩
  · obtain ⟨y1, y2⟩ := keep_mid hB d3 gf hk hH
    have hhT : ∀ d, d < nd → (mf_backups R nd t).2.2.1 0 d = 0 → SUP (mf_backups R nd t).2 d = HLD (mf_backups R nd t).2 := fun d hd q => by
      rw [hH, ← hh d hd ((y2 d hd).mp q)]
      unfold SUP
      rw [hk 2 (by decide) (by decide), hk 3 (by decide) (by decide), hk 4 (by decide) (by decide), hk 5 (by decide) (by decide)]
    obtain ⟨nw, c1, c2⟩ := MOVEEND (R := R) hnd hRR hb y1 hhT d2 d4 ((kp.1 2 (by decide)).trans hn) ((kp.1 3 (by decide)).trans hm) ((kp.1 4 (by decide)).trans hf) hNM hN3 hMn hF
    rw [k3, kp.1 0 (by decide)] at c2
    exact ⟨nw, c1, Or.inr ⟨by rw [d1]; decide, c2⟩⟩
  · have y1 := (keep_mid hB d4 gf hk hH).1
    rw [dn_move d2]
    have fe : ∀ nw, FE R nd (b + 1) U nw (g.1 3) (t.1 0) (gf_4_writeBackups R nd g) 0 (mf_backups R nd t).2 := fun nw => Or.inr ⟨rfl, d2, y1.mono, d3, kp.1 0 (by decide)⟩
    by_cases c : F + 1 = R
    · exact ⟨(0, nI M, nI M, 0), Or.inl ⟨c, rfl⟩, Or.inl ⟨d1, fe _⟩⟩
    · exact ⟨(0, nI N, nI M, nI (F + 1)), Or.inr ⟨c, rfl⟩, Or.inl ⟨d1, fe _⟩⟩
end SIMO
