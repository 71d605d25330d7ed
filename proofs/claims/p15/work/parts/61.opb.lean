/-! ===== THE BLOCKS: open ===== -/
section OG
variable {R nd b : Nat} {g : GS} {t : MS}
theorem DN1.on {G : GS} {T : MS} {lv : Nat → Prop} {fm : (Nat → Prop) → Prop} (h : DN1 R lv fm g t) (hs : ∀ d, lv d → sup4 G d = sup4 g d) (a : AG g t G T) : DN1 R lv fm G T := by
  obtain ⟨S, N, M, F, bd, h1, h2⟩ := h
  exact ⟨S, N, M, F, bd, fun d z => (hs d z).trans (h1 d z), a.dau h2⟩
theorem move_3 : (gf_4_moveRow R nd g).1 3 = g.1 3 := by
  have k : (gf_4_writeMovedRow R nd g (g.1 11) (g.1 10)).1 3 = g.1 3 := by
    obtain ⟨a2, ha⟩ := mr_eq (R := R) (nd := nd) (g := g) (row := g.1 11) (m0 := g.1 10)
    rw [ha]
    exact mr_keep_l 3 (by decide) (by decide) (by decide) (by decide) _ _ _ _ _
  have st : ∀ n0 m0 f, (gf_4_setSuper R nd (gf_4_writeMovedRow R nd g (g.1 11) (g.1 10)) n0 m0 f (-1)).1 3 = g.1 3 := fun _ _ _ => (set_keep 3 (by decide) (by decide) (by decide) (by decide) (by decide) _ _ _ _).trans k
  unfold gf_4_moveRow
  repeat' split
  all_goals first
    | exact st _ _ _
    | (show va_up _ 6 _ 3 = _; rw [va_up_ne _ _ (by decide)]; exact st _ _ _)
/-- backups, then the row -/
theorem BKM {S N M F : Nat} {X : Nat → Nat → Int64} {T : MS} (hn : 3 ≤ nd ∧ nd ≤ 10) (hR : 2 ≤ R ∧ R ≤ 48) (bd : bd4 S N M F) (hS9 : S < 2000) (hNM : N < M) (hM : M ≤ nd) (hF : F < R) (hu : g.1 1 = 1) (hl : hl4 g = q4 S N M F) (hsup : ∀ d, lvD nd g d → sup4 g d = q4 S N M F) (one : one9 nd g)
    (pre : PRE R (lvD nd g) S N M F X g t) (rfu : RFU (lvD nd g) (fam nd g) S N M F (fun _ _ => False) X g) (hv : ∀ i, i < M - 1 → g.2.2 1 0 i = t.2.2 1 (F * (M - 1) + i)) (hnr : ∀ d, d < nd → ¬ (g.2.1 10 d = 0 ∧ g.2.1 0 d = 0 ∧ ¬ g.1 3 ≤ nI F)) (hj : ∀ d, lvD nd g d → ¬ jh g (S + 1) d) (hT : KV t T) :
    ((gf_4_moveRow R nd (gf_4_writeBackups R nd g)).1 1 = 1 ∧ lvD nd (gf_4_moveRow R nd (gf_4_writeBackups R nd g)) = lvD nd g ∧ UPE R nd (gf_4_moveRow R nd (gf_4_writeBackups R nd g)) T) ∨ ((gf_4_moveRow R nd (gf_4_writeBackups R nd g)).1 1 = 0 ∧ DND R nd (gf_4_moveRow R nd (gf_4_writeBackups R nd g)) T) := by
  obtain ⟨s1, s2, n3, nM, m10, f48, nF⟩ := id bd
  have bk := BKP (R := R) (nd := nd) hn.2 hu bd (congrArg Prod.fst hl) pre rfu hv
  have bkk : ∀ i, ¬ i = 1 → ¬ i = 2 → ¬ i = 5 → ¬ i = 7 → (gf_4_writeBackups R nd g).1 i = g.1 i := fun i i1 i2 i5 i7 => bk_keep i i1 i2 i5 i7 _ _ _
  generalize gf_4_writeBackups R nd g = g3 at bk bkk ⊢
  obtain ⟨pre3, rfu3, q3, l3, up3⟩ := bk
  have L3 : lvD nd g3 = lvD nd g := lvD_eq (q3 0 (by decide) (by decide)) (q3 10 (by decide) (by decide))
  have sup3 : ∀ d, lvD nd g3 d → sup4 g3 d = q4 S N M F := fun d z => by
    unfold sup4
    rw [q3 0 (by decide) (by decide), q3 1 (by decide) (by decide), q3 2 (by decide) (by decide), q3 3 (by decide) (by decide)]
    exact hsup d (by rw [← L3]; exact z)
  rcases up3 with ⟨u1, u2⟩ | u1
  · have hl3 : hl4 g3 = q4 S N M F := by
      unfold hl4
      rw [bkk 8 (by decide) (by decide) (by decide) (by decide), bkk 9 (by decide) (by decide) (by decide) (by decide), bkk 10 (by decide) (by decide) (by decide) (by decide), bkk 11 (by decide) (by decide) (by decide) (by decide)]
      exact hl
    have mv := MOVED (R := R) (T := T) (X := X) (t := t) hn hR bd hS9 hNM hM hF u1 hl3 sup3 (by unfold one9; rw [L3]; exact one) (by rw [L3]; exact pre3) (Or.inr (by rw [L3]; exact u2)) (fun i hi => by rw [l3 1 (by decide)]; exact hv i hi) (fun d z w => hnr d z (by rw [q3 10 (by decide) (by decide), q3 0 (by decide) (by decide), bkk 3 (by decide) (by decide) (by decide) (by decide)] at w; exact w)) (fun d z w => hj d (by rw [← L3]; exact z) (by unfold jh at *; rw [q3 4 (by decide) (by decide), q3 5 (by decide) (by decide)] at w; exact w)) hT.2.1 hT.1
    rw [L3] at mv
    exact mv
  · rw [dn_move u1]
    refine Or.inr ⟨u1, Or.inl ⟨S, N, M, F, bd, sup3, ?_⟩⟩
    rw [fam_eq L3, L3]
    exact AG.dau ⟨fun _ _ _ => rfl, fun _ _ _ => rfl, hT.2.1, hT.1⟩ (pre3.dau rfu3)
theorem rb0_rec (hnd : nd ≤ 10) (hm : MM nd nd g t) (h : RB0 nd g) : RB0 nd (gf_4_recallBackup R nd g).2 := by
  obtain ⟨-, a2, -⟩ := rec_l (R := R) hnd hm (nd + 1) 0 (by omega) (by omega)
  have a2 : (gf_4_recallBackup R nd g).2.2.1 = g.2.1 := a2
  exact h.q (by rw [a2]) (by rw [a2]) (by rw [a2])
theorem OEND {S N M F : Nat} {X : Nat → Nat → Int64} {T : MS} {a0 a4 : Int32} (hn : 3 ≤ nd ∧ nd ≤ 10) (hR : 2 ≤ R ∧ R ≤ 48) (bd : bd4 S N M F) (hS9 : S < 2000) (hM : M ≤ nd) (hF : F < R) (hm : MM nd nd g t) (hu : g.1 1 = 1) (h3 : g.1 3 = 0) (hl : hl4 g = q4 S N M F) (hsup : ∀ d, lvD nd g d → sup4 g d = q4 S N M F) (one : one9 nd g)
    (pre : PRE R (lvD nd g) S N M F X g t) (rfu : RFU (lvD nd g) (fam nd g) S N M F (fun _ _ => False) X g) (hj : ∀ d, lvD nd g d → ¬ jh g (S + 1) d) (hr0 : RB0 nd g) (hT : KV t T) :
    RB0 nd (cT R nd a0 a4 g).2 ∧ (cT R nd a0 a4 g).2.1 3 = 0 ∧ (((cT R nd a0 a4 g).2.1 1 = 1 ∧ UPE R nd (cT R nd a0 a4 g).2 T) ∨ ((cT R nd a0 a4 g).2.1 1 = 0 ∧ DND R nd (cT R nd a0 a4 g).2 T)) := by
  obtain ⟨s1, s2, n3, nM, m10, f48, nF⟩ := id bd
  have h8 : g.1 8 = nI S := congrArg Prod.fst hl
  have h9 : g.1 9 = nI N := congrArg (fun x : T4 => x.2.1) hl
  have h10 : g.1 10 = nI M := congrArg (fun x : T4 => x.2.2.1) hl
  have h11 : g.1 11 = nI F := congrArg (fun x : T4 => x.2.2.2) hl
  have e8 : ¬ g.1 8 + 1 = 0 := by rw [h8, nI_1]; exact nI_ne_s s2
  have nr : ∀ (g2 : GS), g2.1 3 = 0 → ∀ d, d < nd → ¬ (g2.2.1 10 d = 0 ∧ g2.2.1 0 d = 0 ∧ ¬ g2.1 3 ≤ nI F) := fun g2 z d _ w => w.2.2 (by rw [z]; exact nI_pos' (by omega))
  -- the supers set as they are
  have SET : (∀ d r, lvD nd g d → r < R → d < wrN N M F r → g.2.2 4 d r = X d r) → RB0 nd (gf_4_setSuper R nd g (g.1 9) (g.1 10) (g.1 11) (-1)) ∧ (gf_4_setSuper R nd g (g.1 9) (g.1 10) (g.1 11) (-1)).1 3 = 0 ∧ (((gf_4_setSuper R nd g (g.1 9) (g.1 10) (g.1 11) (-1)).1 1 = 1 ∧ UPE R nd (gf_4_setSuper R nd g (g.1 9) (g.1 10) (g.1 11) (-1)) T) ∨ ((gf_4_setSuper R nd g (g.1 9) (g.1 10) (g.1 11) (-1)).1 1 = 0 ∧ DND R nd (gf_4_setSuper R nd g (g.1 9) (g.1 10) (g.1 11) (-1)) T)) := by
    intro hmt
    refine ⟨rb0_set e8 hr0, (set_keep 3 (by decide) (by decide) (by decide) (by decide) (by decide) _ _ _ _).trans h3, ?_⟩
    rw [h9, h10, h11]
    have hlv : ∀ d, (lvD nd g d ∨ (d < nd ∧ nI d = (-1 : Int32))) → lvD nd g d := fun d z => z.elim id (fun w => absurd w.2 (nI_m1 (by have := w.1; omega)))
    have bd2 : bd4 (S + 1) N M F := ⟨by omega, by omega, n3, nM, m10, f48, nF⟩
    have key := SETD (R := R) (T := T) (N2 := N) (M2 := M) (F2 := F) (X2 := X) (jo := -1) hn.2 hu h8 bd bd2 hsup (pre.dau rfu) ⟨pre.1, fun d r z1 z2 z3 => hmt d r (hlv d z1) z2 z3, fun d z1 => hj d (hlv d z1), fun d z1 => (pre.2.2.2.2.1 d (hlv d z1)).elim (fun q z => ⟨q, by omega, z.2⟩)⟩ (fun d hd z => absurd z (nI_m1 (by omega))) hT.2.1 hT.1
    exact key.imp (fun z => ⟨z.1, S + 1, N, M, F, X, bd2, z.2.1, z.2.2.2⟩) id
  have pack : ∀ G : GS, RB0 nd G ∧ G.1 3 = 0 ∧ ((G.1 1 = 1 ∧ UPE R nd G T) ∨ (G.1 1 = 0 ∧ DND R nd G T)) → ∀ a b : Int32, RB0 nd (if G.1 1 = 0 then (a, G) else (b, G)).2 ∧ (if G.1 1 = 0 then (a, G) else (b, G)).2.1 3 = 0 ∧ (((if G.1 1 = 0 then (a, G) else (b, G)).2.1 1 = 1 ∧ UPE R nd (if G.1 1 = 0 then (a, G) else (b, G)).2 T) ∨ ((if G.1 1 = 0 then (a, G) else (b, G)).2.1 1 = 0 ∧ DND R nd (if G.1 1 = 0 then (a, G) else (b, G)).2 T)) := by
    intro G k a b
    split
    · exact k
    · exact k
  unfold cT gf_4_resumeReshaping
  by_cases c0 : gf_4_isReshaped R nd g = 0
  · rw [if_pos c0, if_pos rfl]
    have hNM : N = M := by
      unfold gf_4_isReshaped at c0
      rw [h9, h10] at c0
      rcases Nat.lt_or_ge N M with q | q
      · rw [if_neg (nI_ge q (by omega))] at c0
        exact absurd c0 (by decide)
      · omega
    exact pack _ (SET (fun d r z1 z2 z3 => pre.2.1 d r z1 z2 z3 (fun w => by omega))) 0 a0
  · rw [if_neg c0]
    have hNM : N < M := by
      rcases Nat.lt_or_ge N M with q | q
      · exact q
      · exfalso
        apply c0
        unfold gf_4_isReshaped
        rw [h9, h10, if_pos (nI_le q (by omega))]
    obtain ⟨a1, a2, -⟩ := rec_l (R := R) hn.2 hm (nd + 1) 0 (by omega) (by omega)
    obtain ⟨b1, b2⟩ := ef_rec_l (R := R) (g := g) hn.2 (nd + 1) 0 (by omega) (by omega)
    have a1 : (gf_4_recallBackup R nd g).2.1 = g.1 := a1
    have a2 : (gf_4_recallBackup R nd g).2.2.1 = g.2.1 := a2
    have b1 : ∀ q, ¬ q = 1 → (gf_4_recallBackup R nd g).2.2.2 q = g.2.2 q := b1
    have b2 : ((gf_4_recallBackup R nd g).1 = 0 ∧ (gf_4_recallBackup R nd g).2 = g ∧ ∀ d, 0 ≤ d → lvD nd g d → ¬ g.2.1 9 d = g.1 8) ∨ ((gf_4_recallBackup R nd g).1 = 1 ∧ ∃ d, lvD nd g d ∧ g.2.1 9 d = g.1 8 ∧ ∀ i, i < 10 → (gf_4_recallBackup R nd g).2.2.2 1 0 i = g.2.2 3 d i) := b2
    have r9 := rb0_rec (R := R) hn.2 hm hr0
    generalize gf_4_recallBackup R nd g = rr at a1 a2 b1 b2 r9 ⊢
    rcases b2 with ⟨z1, z2, z3⟩ | ⟨z1, d, z2, z3, z4⟩
    · rw [if_pos z1, z2]
      by_cases cc : gf_4_isCritical R nd g = 0
      · rw [if_pos cc, if_neg (show ¬ ((1 : Int32), gf_4_moveRow R nd (gf_4_gatherRowValues R nd g)).1 = 0 by show ¬ (1 : Int32) = 0; decide)]
        have hcr := (crit_iff h9 h10 h11 n3 nM m10 f48).mp cc
        obtain ⟨gc1, gc2⟩ := gather_ct (R := R) (nd := nd) (g := g)
        obtain ⟨ga1, ga2⟩ := GATH (R := R) (nd := nd) (g := g) hR.2 bd hF hl pre.1.2.2 (fun A hA1 hA g1 e1 e2 e3 => by
          have L1 : lvD nd g1 = lvD nd g := lvD_eq (by rw [e2]) (by rw [e2])
          have hA4 : A < 432 := Nat.lt_of_lt_of_le hA (Nat.le_trans (Nat.mul_le_mul hR.2 (show N - 1 ≤ 9 by omega)) (by decide))
          have w1 : widN N M F A = N := by unfold widN; rw [if_pos hA1]
          have hrow := row_lt (R := R) (F := F) (A := A) n3 nM hF hA
          have hwr := wr_row (F := F) (A := A) n3 nM
          have hnF : ¬ rowN (widN N M F A) A = F := by
            rw [w1]
            unfold crit at hcr
            have k1 : F * (M - 1) = F * (N - 1) + F * (M - N) := by rw [← Nat.mul_add, show N - 1 + (M - N) = M - 1 by omega]
            have k2 : (F + 1) * (N - 1) = F * (N - 1) + (N - 1) := by rw [Nat.add_mul, Nat.one_mul]
            have : F + 1 ≤ A / (N - 1) := (Nat.le_div_iff_mul_le (by omega)).mpr (by omega)
            unfold rowN
            omega
          rw [← pre.1.2.1 A (Or.inl hA)]
          refine valOf (X := X) (by rw [e1]; exact h9) (by rw [e1]; exact h10) (by rw [e1]; exact h11) n3 nM hM hn.2 f48 hA4 hrow hR.2 (fun e he z => ?_) ?_ (by unfold one9; rw [L1]; exact one)
          · rw [L1] at z
            rw [e3 4 (by decide)]
            exact pre.2.1 e _ z hrow (by rw [hwr]; exact he) (fun w => hnF w.2)
          · have := pre.1.1 _ hrow
            rw [hwr] at this
            exact this)
        generalize gf_4_gatherRowValues R nd g = g2 at gc1 gc2 ga1 ga2 ⊢
        have L2 : lvD nd g2 = lvD nd g := lvD_eq (by rw [gc2]) (by rw [gc2])
        have ag2 : AG g t g2 t := ⟨fun q _ _ => by rw [gc2], fun q z _ => ga1 q (by omega), rfl, rfl⟩
        have mv := MOVED (R := R) (g := g2) (t := t) (T := T) (X := X) hn hR bd hS9 hNM hM hF (by rw [gc1]; exact hu) (by unfold hl4; rw [gc1]; exact hl) (fun d z => by unfold sup4; rw [gc2]; exact hsup d (by rw [← L2]; exact z)) (by unfold one9; rw [L2]; exact one) (by rw [L2]; exact ag2.pre pre) (Or.inl hcr) ga2 (nr g2 (by rw [gc1]; exact h3)) (fun d z w => hj d (by rw [← L2]; exact z) (ag2.hj.mp w)) hT.2.1 hT.1
        dsimp only
        exact pack _ ⟨rb0_move hn.2 (by rw [gc1]; exact e8) (hr0.q (by rw [gc2]) (by rw [gc2]) (by rw [gc2])), move_3.trans (by rw [gc1]; exact h3), mv.imp (fun z => ⟨z.1, z.2.2⟩) id⟩ 0 a4
      · rw [if_neg cc, if_pos rfl]
        have hcr : crit N M F := Classical.byContradiction (fun z => cc ((crit_iff h9 h10 h11 n3 nM m10 f48).mpr z))
        have full : ∀ d r, lvD nd g d → r < R → d < wrN N M F r → g.2.2 4 d r = X d r := by
          intro d r w1 w2 w3
          by_cases c : r = F
          · subst c
            rcases rfu with q | ⟨q1, q2 | q2⟩
            · exact q d w1 w3 (fun w => w)
            · exact absurd hcr q2
            · obtain ⟨e, x1, x2⟩ := q2 _ (Or.inl rfl)
              exact absurd (x2.trans h8.symm) (z3 e (by omega) x1)
          · exact pre.2.1 d r w1 w2 w3 (fun w => c w.2)
        exact pack _ (SET full) 0 a0
    · rw [z1, if_neg (show ¬ (1 : Int32) = 0 by decide), if_neg (show ¬ ((1 : Int32), gf_4_moveRow R nd (gf_4_writeBackups R nd rr.2)).1 = 0 by show ¬ (1 : Int32) = 0; decide)]
      have L2 : lvD nd rr.2 = lvD nd g := lvD_eq (by rw [a2]) (by rw [a2])
      have ag2 : AG g t rr.2 t := ⟨fun q _ _ => by rw [a2], fun q z _ => b1 q (by omega), rfl, rfl⟩
      have hv : ∀ i, i < M - 1 → rr.2.2.2 1 0 i = t.2.2 1 (F * (M - 1) + i) := fun i hi => by
        rw [z4 i (by omega)]
        exact pre.2.2.2.2.2 hNM d i z2 (z3.trans h8) hi
      have mv := BKM (R := R) (g := rr.2) (t := t) (T := T) (X := X) hn hR bd hS9 hNM hM hF (by rw [a1]; exact hu) (by unfold hl4; rw [a1]; exact hl) (fun d z => by unfold sup4; rw [a2]; exact hsup d (by rw [← L2]; exact z)) (by unfold one9; rw [L2]; exact one) (by rw [L2]; exact ag2.pre pre) (by rw [fam_eq L2, L2]; exact ag2.rfu rfu) hv (nr rr.2 (by rw [a1]; exact h3)) (fun d z w => hj d (by rw [← L2]; exact z) (ag2.hj.mp w)) hT
      have k3 : (gf_4_writeBackups R nd rr.2).1 3 = 0 := (bk_keep 3 (by decide) (by decide) (by decide) (by decide) _ _ _).trans (by rw [a1]; exact h3)
      have k8 : (gf_4_writeBackups R nd rr.2).1 8 = g.1 8 := (bk_keep 8 (by decide) (by decide) (by decide) (by decide) _ _ _).trans (by rw [a1])
      dsimp only
      exact pack _ ⟨rb0_move hn.2 (by rw [k8]; exact e8) (rb0_bk hn.2 r9), move_3.trans k3, mv.imp (fun z => ⟨z.1, z.2.2⟩) id⟩ 0 a4
end OG
