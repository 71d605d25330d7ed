/-! ===== THE BLOCKS: the calls write, step, rebuild ===== -/
section WD
variable {R nd b : Nat} {g : GS} {t : MS}
theorem bkr_no {lv : Nat → Prop} {S N M F : Nat} {val : Nat → Int64} (hS : S ≤ 2000) (h : ∀ d, lv d → ∃ q, q < S ∧ g.2.1 9 d = nI q) : BKR lv S N M F val g := by
  intro _ d k z1 z2 _
  obtain ⟨q, y1, y2⟩ := h d z1
  have := nI_inj (by omega) (by omega) (y2.symm.trans z2)
  omega
theorem dat_write (hn : 3 ≤ nd ∧ nd ≤ 10) (hR : 2 ≤ R ∧ R ≤ 48) (hb : b ≤ 1000) (h : INV R nd b g t) (hd : DAT R nd b g t) (y : Int64) (x : Int32) (v : Int64) : DAT R nd (b + 1) (lr_write R nd g y x v).2.2.1 (mf_write R nd t x v).2 := by
  unfold lr_write mf_write
  rcases h with h | h
  · obtain ⟨hB, hu, hu2, h3, -, hh⟩ := id h
    obtain ⟨S, N, M, F, X, bd, y1, y2, y3, y4, y5, y6, y7, y8, y9, y10⟩ := h.get hn hR (by omega) (hd.2.2.1 hu)
    obtain ⟨s1, s2, n3, nM, m10, f48, nF⟩ := id bd
    have e1 : t.1 1 = nI S := congrArg Prod.fst y4
    have e2 : t.1 2 = nI N := congrArg (fun x : T4 => x.2.1) y4
    have e3 : t.1 3 = nI M := congrArg (fun x : T4 => x.2.2.1) y4
    have e4 : t.1 4 = nI F := congrArg (fun x : T4 => x.2.2.2) y4
    have f1 : g.1 8 = nI S := congrArg Prod.fst y5
    have f2 : g.1 9 = nI N := congrArg (fun x : T4 => x.2.1) y5
    have f3 : g.1 10 = nI M := congrArg (fun x : T4 => x.2.2.1) y5
    have f4 : g.1 11 = nI F := congrArg (fun x : T4 => x.2.2.2) y5
    have q3 : mf_places R nd t = nI (R * (N - 1)) := by
      unfold mf_places
      rw [e2, nI_one, pk_sub (by omega), pk_mul]
    have q4' : gf_4_placeCount R nd g = nI (R * (N - 1)) := (gp_places hB.1.1.2.2.2.2.2.2.1).trans q3
    have hle : R * (N - 1) ≤ 432 := Nat.le_trans (Nat.mul_le_mul hR.2 (show N - 1 ≤ 9 by omega)) (by decide)
    rw [if_neg (show ¬ g.1 1 = 0 by rw [hu]; decide), if_neg (show ¬ t.1 5 = 0 by rw [hu2]; decide)]
    by_cases c0 : x < 0
    · rw [if_pos c0, if_pos (gp_isPlace0.mpr (Or.inl c0))]
      exact hd.th
    · rw [if_neg c0]
      by_cases c1 : x < mf_places R nd t
      · have c2 : ¬ gf_4_isPlace R nd g x = 0 := by
          rw [gp_isPlace0, q4', ← q3]
          intro q
          rcases q with q | q
          · exact c0 q
          · exact Int32.not_lt.mpr q c1
        rw [if_pos c1, if_neg c2]
        rw [q3] at c1
        obtain ⟨A, hA, rfl⟩ := vp_in_of (ix_lt c0 c1 (Nat.le_refl _) (by omega)) (by omega)
        obtain ⟨p1, p2, p3, p4, p5, p6, p7⟩ := place_nI (R := R) (nd := nd) e2 e3 e4 f2 f3 f4 (by omega) nM n3 (by omega) nF (show A < 432 by omega)
        obtain ⟨w3, wM⟩ := wid_le (F := F) (A := A) n3 nM
        have hrow := row_lt (R := R) (F := F) (A := A) n3 nM y3 hA
        have hdsk := dsk_lt (A := A) w3
        have hpar := par_lt (A := A) w3
        have hwr := wr_row (F := F) (A := A) n3 nM
        have hne : ¬ dskN (widN N M F A) A = parN (widN N M F A) A := pl_par n3 nM rfl
        have ew : (gf_4_write R nd g (nI A) v).2 = gf_4_carryOutOrder R nd (gli (gli (gf_2_tell_r R nd (gsi g 4 (g.1 4 + 1)) (g.1 8) (g.1 4 + 1) (nI (rowN (widN N M F A) A)) (nI (dskN (widN N M F A) A)) (nI (parN (widN N M F A) A))) 0 0 0 v) 0 0 1 (gf_4_parityWith R nd (gli (gf_2_tell_r R nd (gsi g 4 (g.1 4 + 1)) (g.1 8) (g.1 4 + 1) (nI (rowN (widN N M F A) A)) (nI (dskN (widN N M F A) A)) (nI (parN (widN N M F A) A))) 0 0 0 v) (nI (widN N M F A)) (nI (rowN (widN N M F A) A)) (nI (dskN (widN N M F A) A)) v)) := by
          unfold gf_4_write
          rw [p4, p5, p6, p7]
        have hpv : gf_4_parityWith R nd (gli (gf_2_tell_r R nd (gsi g 4 (g.1 4 + 1)) (g.1 8) (g.1 4 + 1) (nI (rowN (widN N M F A) A)) (nI (dskN (widN N M F A) A)) (nI (parN (widN N M F A) A))) 0 0 0 v) (nI (widN N M F A)) (nI (rowN (widN N M F A) A)) (nI (dskN (widN N M F A) A)) v = v ^^^ xp (fun d => X d (rowN (widN N M F A) A)) (parN (widN N M F A) A) (dskN (widN N M F A) A) (widN N M F A) := by
          refine parw (X := fun d => X d (rowN (widN N M F A) A)) w3 (by omega) hn.2 hrow hR.2 hdsk (fun e he z => ?_) ?_ ?_
          · exact y7.2.1 e _ z hrow (by rw [hwr]; exact he)
          · have := y7.1.1 _ hrow
            rw [hwr] at this
            exact this
          · exact y9
        rw [show ((0 : Int32), nd, (gf_4_write R nd g (nI A) v).2, (if (gf_4_write R nd g (nI A) v).1 = 0 then (0 : Int64) else 1)).2.2.1 = (gf_4_write R nd g (nI A) v).2 from rfl, ew, hpv]
        have gd := y7.1.wr (v := v) n3 nM hA
        generalize ep : v ^^^ xp (fun d => X d (rowN (widN N M F A) A)) (parN (widN N M F A) A) (dskN (widN N M F A) A) (widN N M F A) = p at gd ⊢
        generalize eX : up2 (up2 X (dskN (widN N M F A) A) (rowN (widN N M F A) A) v) (parN (widN N M F A) A) (rowN (widN N M F A) A) p = X' at gd
        have hXJ : XJ N M F X' A v p := by
          unfold XJ
          rw [← eX]
          unfold up2
          exact ⟨by rw [if_neg (fun q => hne q.1), if_pos ⟨rfl, rfl⟩], by rw [if_pos ⟨rfl, rfl⟩]⟩
        have hXo : ∀ d r, ¬ cel N M F A d r → X' d r = X d r := by
          intro d r z
          rw [← eX]
          unfold up2
          rw [if_neg (fun q => z ⟨q.2, Or.inr q.1⟩), if_neg (fun q => z ⟨q.2, Or.inl q.1⟩)]
        generalize eg : gli (gli (gf_2_tell_r R nd (gsi g 4 (g.1 4 + 1)) (g.1 8) (g.1 4 + 1) (nI (rowN (widN N M F A) A)) (nI (dskN (widN N M F A) A)) (nI (parN (widN N M F A) A))) 0 0 0 v) 0 0 1 p = g'
        have a1 : g'.2.1 = g.2.1 := by rw [← eg]; rfl
        have a2 : ∀ i, ¬ i = 4 → i < 12 → g'.1 i = g.1 i := by
          intro i h4 h12
          rw [← eg]
          simp [gli, gf_2_tell_r, gsi, va_up, h4, show ¬ i = 12 by omega, show ¬ i = 13 by omega, show ¬ i = 14 by omega, show ¬ i = 15 by omega, show ¬ i = 16 by omega]
        have a4 : g'.1 4 = g.1 4 + 1 := by rw [← eg]; rfl
        have a5 : ∀ q, ¬ q = 0 → g'.2.2 q = g.2.2 q := fun q hq => by
          rw [← eg]
          simp [gli, gf_2_tell_r, gsi, va_up, hq]
        have hM' : MM nd nd g' (si (si t 0 0) 8 (t.1 8 + 1)) := by
          obtain ⟨⟨s1, s2, s3, s4, s5, s6, s7, s8, s9⟩, m2⟩ := hB.1
          refine ⟨?_, ?_⟩
          · unfold sE
            rw [a4, a2 2 (by decide) (by decide), a2 5 (by decide) (by decide), a2 6 (by decide) (by decide), a2 7 (by decide) (by decide), a2 8 (by decide) (by decide), a2 9 (by decide) (by decide), a2 10 (by decide) (by decide), a2 11 (by decide) (by decide), s2]
            exact ⟨s1, rfl, s3, s4, s5, s6, s7, s8, s9⟩
          · unfold dE stE at m2 ⊢
            rw [a1]
            exact m2
        have o12 : g'.1 12 = g.1 8 := by rw [← eg]; rfl
        have o13 : g'.1 13 = t.1 8 + 1 := by rw [← eg, ← hB.1.1.2.1]; rfl
        have o14 : g'.1 14 = nI (rowN (widN N M F A) A) := by rw [← eg]; rfl
        have o15 : g'.1 15 = nI (dskN (widN N M F A) A) := by rw [← eg]; rfl
        have o16 : g'.1 16 = nI (parN (widN N M F A) A) := by rw [← eg]; rfl
        have v0 : g'.2.2 0 0 0 = v := by rw [← eg]; simp [gli, va_up]
        have v1 : g'.2.2 0 0 1 = p := by rw [← eg]; simp [gli, va_up]
        have hO : OJ R nd (rowN (widN N M F A) A) (dskN (widN N M F A) A) (parN (widN N M F A) A) (t.1 8 + 1) (nI A) g' (si (si t 0 0) 8 (t.1 8 + 1)) := by
          obtain ⟨-, z1, z2, z3⟩ := geo_cong (R := R) (nd := nd) (a := nI A) (t := t) (t' := si (si t 0 0) 8 (t.1 8 + 1)) rfl rfl rfl
          exact ⟨o12.trans hB.1.1.2.2.2.2.2.1, o13, o14, o15, o16, z1.trans p1, z2.trans p2, z3.trans p3⟩
        have hu' : g'.1 1 = 1 := (a2 1 (by decide) (by decide)).trans hu
        have h3' : g'.1 3 = (si (si t 0 0) 8 (t.1 8 + 1)).1 7 ∧ (si (si t 0 0) 8 (t.1 8 + 1)).1 5 = 1 := ⟨(a2 3 (by decide) (by decide)).trans h3, hu2⟩
        have key := sim_jo (R := R) (v := v) hn.2 hR.2 (by omega) (by omega) hrow hM' hu' h3' hO
        have L' : lvD nd g' = lvD nd g := lvD_eq (by rw [a1]) (by rw [a1])
        have one' : one9 nd g' := by
          unfold one9
          rw [L']
          exact y9
        have ag : AG g t g' (si (si t 0 0) 8 (t.1 8 + 1)) := ⟨fun q _ _ => by rw [a1], fun q z _ => a5 q (by omega), rfl, rfl⟩
        have dau : DAU R (lvD nd g') (fam nd g') S N M F g' (si (si t 0 0) 8 (t.1 8 + 1)) := by
          rw [L']
          exact ag.dau (y7.dau s2 y3)
        obtain ⟨⟨c, hc, ec⟩, hr0, -, -⟩ := id hd
        have hq : 0 < t.1 8 + 1 := by
          rw [ec, nI_1]
          exact Int32.not_le.mp (nI_nle (by omega) (by omega))
        have e9 : g'.2.1 9 = g.2.1 9 := by rw [a1]
        have dk : DKU R (lvD nd g') (fam nd g') S N M F (cel N M F A) X' (va_up (t.2.2 1) A v) g' := by
          refine ⟨gd, fun d r z1 z2 z3 z4 _ => ?_, Or.inl (fun d z1 z2 z3 => ?_), bkr_no s2 ?_⟩
          · rw [a5 4 (by decide), hXo d r z4]
            rw [L'] at z1
            exact y7.2.1 d r z1 z2 z3
          · rw [a5 4 (by decide), hXo d F z3]
            rw [L'] at z1
            exact y7.2.1 d F z1 y3 z2
          · rw [L', e9]
            exact y7.2.2.2.2
        have hOC : ((mf_journaled R nd (si (si t 0 0) 8 (t.1 8 + 1)) (t.1 8 + 1) (nI A) v).1 = 1 ∧ (gf_4_carryOutOrder R nd g').1 1 = 1) ∨ ((mf_journaled R nd (si (si t 0 0) 8 (t.1 8 + 1)) (t.1 8 + 1) (nI A) v).1 = 0 ∧ (gf_4_carryOutOrder R nd g').1 1 = 0) := key.imp (fun z => ⟨z.1, z.2.1⟩) (fun z => ⟨z.1, z.2.1⟩)
        have car := CAR (R := R) (g := g') (t := si (si t 0 0) 8 (t.1 8 + 1)) hn hR.2 bd y2 y3 hA hM' hu' (o12.trans f1) e1 o13 hq o14 o15 o16 v0 v1 one' dau hXJ dk hOC
        have ks : (mf_journaled R nd (si (si t 0 0) 8 (t.1 8 + 1)) (t.1 8 + 1) (nI A) v).2.1 8 = (si (si t 0 0) 8 (t.1 8 + 1)).1 8 := mf_journaled_s 8 (by decide)
        have gk : ∀ i, ¬ i = 1 → ¬ i = 2 → ¬ i = 5 → ¬ i = 7 → (gf_4_carryOutOrder R nd g').1 i = g'.1 i := fun i i1 i2 i5 i7 => carry_keep i i1 i2 i5 i7 _ _ _ _
        generalize mf_journaled R nd (si (si t 0 0) 8 (t.1 8 + 1)) (t.1 8 + 1) (nI A) v = rT at car ks ⊢
        generalize gf_4_carryOutOrder R nd g' = G at car gk ⊢
        obtain ⟨k1, k2⟩ := car
        have LG : lvD nd G = lvD nd g := (lvD_eq (k1 0 (by omega)) (k1 10 (by omega))).trans L'
        have sG : ∀ d, sup4 G d = sup4 g d := fun d => by
          unfold sup4
          rw [k1 0 (by omega), k1 1 (by omega), k1 2 (by omega), k1 3 (by omega), a1]
        have r0 : RB0 nd G := hr0.q (by rw [k1 0 (by omega), a1]) (by rw [k1 9 (by omega), a1]) (by rw [k1 10 (by omega), a1])
        have cn : ∃ c, c ≤ b + 1 ∧ rT.2.1 8 = nI c := ⟨c + 1, by omega, by rw [ks, ← nI_1, ← ec]; rfl⟩
        rcases k2 with ⟨z1, z2, z3⟩ | ⟨z1, z2, z3, z4, z5, z6, z7⟩
        · refine ⟨cn, r0, fun w => absurd (z2.symm.trans w) (by decide), fun _ => Or.inl ⟨S, N, M, F, bd, fun d w => ?_, ?_⟩⟩
          · rw [LG] at w
            exact (sG d).trans (y6 d w)
          · rw [fam_eq (LG.trans L'.symm), LG, ← L']
            exact z3
        · have wG : ∀ d r, wbl nd g' d r ↔ wbl nd g d r := fun d r => by
            unfold wbl
            rw [L', a1, a2 3 (by decide) (by decide)]
          have mt : ∀ d r, wbl nd g d r → g.2.2 4 d r = X d r → G.2.2 4 d r = X' d r := by
            intro d r w1 w2
            refine z7 d r ((wG d r).mpr w1) ?_
            by_cases cc : cel N M F A d r
            · exact Or.inr cc
            · exact Or.inl (by rw [a5 4 (by decide), hXo d r cc]; exact w2)
          have g3 : G.1 3 = g.1 3 := (gk 3 (by decide) (by decide) (by decide) (by decide)).trans (a2 3 (by decide) (by decide))
          refine ⟨cn, r0, fun _ => ⟨S, N, M, F, X', bd, ?_, ?_, ?_, ?_, ?_, fun d r w1 w2 w3 w4 w5 w6 => ?_⟩, fun w => absurd (z2.symm.trans w) (by decide)⟩
          · exact ((gk 8 (by decide) (by decide) (by decide) (by decide)).trans (a2 8 (by decide) (by decide))).trans f1
          · exact ((gk 9 (by decide) (by decide) (by decide) (by decide)).trans (a2 9 (by decide) (by decide))).trans f2
          · exact ((gk 10 (by decide) (by decide) (by decide) (by decide)).trans (a2 10 (by decide) (by decide))).trans f3
          · exact ((gk 11 (by decide) (by decide) (by decide) (by decide)).trans (a2 11 (by decide) (by decide))).trans f4
          · rw [LG]
            rw [L'] at z4 z5
            refine ⟨by rw [z3]; exact gd, fun d r w1 w2 w3 => mt d r (Or.inl w1) (y7.2.1 d r w1 w2 w3), z4, z5, ?_⟩
            rw [k1 9 (by omega), a1]
            exact y7.2.2.2.2
          · rw [k1 10 (by omega), a1] at w2
            rw [k1 0 (by omega), a1] at w3
            rw [g3] at w4
            exact mt d r (Or.inr ⟨w1, w2, w3, w4⟩) (y8 d r w1 w2 w3 w4 w5 w6)
      · rw [if_neg c1, if_pos (gp_isPlace0.mpr (Or.inr (by rw [q4', ← q3]; exact Int32.not_lt.mp c1)))]
        exact hd.th
  · rw [if_pos h.2.1, if_pos h.2.2.1]
    exact hd.th
/-! step -/
theorem crit_iff {N M F : Nat} (h9 : g.1 9 = nI N) (h10 : g.1 10 = nI M) (h11 : g.1 11 = nI F) (hN3 : 3 ≤ N) (hN : N ≤ M) (hM : M ≤ 10) (hF : F < 48) : gf_4_isCritical R nd g = 0 ↔ ¬ crit N M F := by
  unfold gf_4_isCritical crit
  rw [h9, h10, h11, nI_one, pk_sub (by omega), pk_sub hN, pk_mul]
  have hle : F * (M - N) ≤ 48 * 10 := Nat.mul_le_mul (by omega) (by omega)
  by_cases c : N - 1 ≤ F * (M - N)
  · rw [if_pos (nI_le c (by omega))]
    exact ⟨fun _ => by omega, fun _ => rfl⟩
  · rw [if_neg (nI_ge (by omega) (by omega))]
    exact ⟨fun z => absurd z (by decide), fun z => absurd (by omega) z⟩
theorem GATH {S N M F : Nat} {val : Nat → Int64} (hR : R ≤ 48) (bd : bd4 S N M F) (hF : F < R) (hl : hl4 g = q4 S N M F) (h0 : ∀ A, R * (N - 1) ≤ A → val A = 0)
    (hv : ∀ A, F * (M - 1) ≤ A → A < R * (N - 1) → ∀ g1 : GS, g1.1 = g.1 → g1.2.1 = g.2.1 → (∀ q, ¬ q = 1 → g1.2.2 q = g.2.2 q) → gf_4_valueOf R nd g1 (nI A) = val A) :
    (∀ q, ¬ q = 1 → (gf_4_gatherRowValues R nd g).2.2 q = g.2.2 q) ∧ ∀ i, i < M - 1 → (gf_4_gatherRowValues R nd g).2.2 1 0 i = val (F * (M - 1) + i) := by
  obtain ⟨s1, s2, n3, nM, m10, f48, nF⟩ := id bd
  have h9 : g.1 9 = nI N := congrArg (fun x : T4 => x.2.1) hl
  have h10 : g.1 10 = nI M := congrArg (fun x : T4 => x.2.2.1) hl
  have h11 : g.1 11 = nI F := congrArg (fun x : T4 => x.2.2.2) hl
  have hle : R * (N - 1) ≤ 48 * 9 := Nat.mul_le_mul hR (by omega)
  have hle2 : F * (M - 1) ≤ 48 * 9 := Nat.mul_le_mul (by omega) (by omega)
  unfold gf_4_gatherRowValues
  rw [h10, h11, nI_one, pk_sub (by omega), pk_mul]
  refine gath_l (rv := fun i => val (F * (M - 1) + i)) h10 (by omega) m10 (fun k hk g1 e1 e2 e3 => ?_) 11 0 g (by omega) (by omega) rfl rfl (fun _ _ => rfl) (fun i hi => by omega)
  rw [nI_add]
  have pc : gf_4_placeCount R nd g1 = nI (R * (N - 1)) := by
    unfold gf_4_placeCount
    rw [e1, h9, nI_one, pk_sub (by omega), pk_mul]
  by_cases c : F * (M - 1) + k < R * (N - 1)
  · rw [if_neg (by
      rw [gp_isPlace0, pc]
      intro q
      rcases q with q | q
      · exact nI_pos (by omega) q
      · exact nI_ge c (by omega) q)]
    exact hv _ (by omega) c g1 e1 e2 e3
  · rw [if_pos (gp_isPlace0.mpr (Or.inr (by rw [pc]; exact nI_le (by omega) (by omega))))]
    exact (h0 _ (by omega)).symm
theorem BKP {S N M F : Nat} {X : Nat → Nat → Int64} (hnd : nd ≤ 10) (hu : g.1 1 = 1) (bd : bd4 S N M F) (h8 : g.1 8 = nI S) (pre : PRE R (lvD nd g) S N M F X g t) (rfu : RFU (lvD nd g) (fam nd g) S N M F (fun _ _ => False) X g) (hv : ∀ i, i < M - 1 → g.2.2 1 0 i = t.2.2 1 (F * (M - 1) + i)) :
    PRE R (lvD nd g) S N M F X (gf_4_writeBackups R nd g) t ∧ RFU (lvD nd g) (fam nd g) S N M F (fun _ _ => False) X (gf_4_writeBackups R nd g) ∧ (∀ q, ¬ q = 9 → ¬ q = 11 → (gf_4_writeBackups R nd g).2.1 q = g.2.1 q) ∧ (∀ q, ¬ q = 3 → (gf_4_writeBackups R nd g).2.2 q = g.2.2 q) ∧ (((gf_4_writeBackups R nd g).1 1 = 1 ∧ ∀ d, lvD nd g d → (gf_4_writeBackups R nd g).2.1 9 d = nI S) ∨ (gf_4_writeBackups R nd g).1 1 = 0) := by
  obtain ⟨s1, s2, n3, nM, m10, f48, nF⟩ := id bd
  obtain ⟨k, hk, hE, hup⟩ := ef_bk (R := R) (g := g) hnd hu
  generalize gf_4_writeBackups R nd g = G at hE hup ⊢
  rw [show BE nd g G k ↔ BE nd g G k from Iff.rfl] at hE
  obtain ⟨p1, p2, p3, p4, p5, p6⟩ := pre
  have ej : ∀ d, jh G S d ↔ jh g S d := fun d => by
    unfold jh
    rw [hE.2.2.1 4 (by decide) (by decide), hE.2.2.1 5 (by decide) (by decide)]
  have bk : ∀ d, lvD nd g d → G.2.1 9 d = nI S ∨ G.2.1 9 d = g.2.1 9 d := by
    intro d z
    by_cases c : d < k
    · exact Or.inl ((hE.1 d c z).1.trans h8)
    · exact Or.inr (hE.2.1 d (fun w => c w.1)).1
  refine ⟨⟨p1, fun d r z1 z2 z3 z4 => ?_, fun d z1 z2 => ?_, fun d e f z1 z2 => p4 d e f z1 ((ej d).mp z2), fun d z => ?_, fun z d i z1 z2 z3 => ?_⟩, ?_, hE.2.2.1, hE.2.2.2, ?_⟩
  · rw [hE.2.2.2 4 (by decide)]
    exact p2 d r z1 z2 z3 z4
  · obtain ⟨A, v, p, j, w⟩ := p3 d z1 ((ej d).mp z2)
    refine ⟨A, v, p, ?_, w⟩
    unfold JD at *
    rw [hE.2.2.1 6 (by decide) (by decide), hE.2.2.1 7 (by decide) (by decide), hE.2.2.1 8 (by decide) (by decide), hE.2.2.2 2 (by decide)]
    exact j
  · rcases bk d z with w | w
    · exact ⟨S, Nat.le_refl _, w⟩
    · rw [w]
      exact p5 d z
  · by_cases c : d < k
    · rw [(hE.1 d c z1).2 i (by omega)]
      exact hv i z3
    · obtain ⟨w1, w2⟩ := hE.2.1 d (fun w => c w.1)
      rw [w2]
      exact p6 z d i z1 (w1.symm.trans z2) z3
  · refine rfu.imp (fun z d w1 w2 w3 => ?_) (fun z => ⟨z.1, z.2.imp id (fun w l hl => ?_)⟩)
    · rw [hE.2.2.2 4 (by decide)]
      exact z d w1 w2 w3
    · obtain ⟨d, w1, w2⟩ := w l hl
      rcases bk d (fam_sub hl d w1) with w3 | w3
      · exact ⟨d, w1, w3⟩
      · exact ⟨d, w1, w3.trans w2⟩
  · refine hup.imp (fun z => ⟨z.1, fun d w => ?_⟩) id
    exact (hE.1 d (by have := w.1; omega) w).1.trans h8
theorem rb0_bk_l (hnd : nd ≤ 10) : ∀ (j k : Nat) (g1 : GS), k ≤ nd → RB0 nd g1 → RB0 nd (gg_4_writeBackups_2 R nd j k g1) := by
  intro j
  induction j with
  | zero => intro k g1 _ h; exact h
  | succ j ih =>
    intro k g1 hk h
    have sp : RB0 nd (gf_4_spendWrite R nd g1).2 := h.cg spend_arr
    rw [gg_4_writeBackups_2]
    by_cases c : nI nd ≤ nI k
    · rw [if_pos c]
      exact h
    · have hk2 : k < nd := nd_lt c (by omega)
      rw [if_neg c]
      by_cases c0 : gf_4_isLive R nd g1 (nI k) = 0
      · rw [if_pos c0]
        exact ih _ _ (by omega) h
      · rw [if_neg c0]
        have lk : lvD nd g1 k := Classical.byContradiction (fun z => c0 ((lvk_iff hk2 hnd).mpr z))
        split
        · exact ih _ _ (by omega) sp
        · refine ih _ _ (by omega) (fun d z1 z2 z3 => ?_)
          rw [(takeBackup_eq (R := R) (nd := nd)).2] at z2 z3 ⊢
          by_cases e : d = k
          · subst e
            have z3' : g1.2.1 0 d = 0 := by
              have : (gf_4_spendWrite R nd g1).2.2.1 0 d = 0 := by simpa [gdi, va_up] using z3
              rw [spend_arr] at this
              exact this
            exact absurd z3' lk.2.2
          · have := sp d z1 (by simpa [gdi, va_up] using z2) (by simpa [gdi, va_up] using z3)
            simpa [gdi, va_up, e] using this
theorem rb0_bk (hnd : nd ≤ 10) (h : RB0 nd g) : RB0 nd (gf_4_writeBackups R nd g) := rb0_bk_l hnd _ _ _ (by omega) h
theorem rb0_move (hnd : nd ≤ 10) (hs : ¬ g.1 8 + 1 = 0) (h : RB0 nd g) : RB0 nd (gf_4_moveRow R nd g) := by
  have gm := (GF_mr (R := R) (g := g) (row := g.1 11) (m0 := g.1 10) hnd).1
  have k8 : (gf_4_writeMovedRow R nd g (g.1 11) (g.1 10)).1 8 = g.1 8 := by
    obtain ⟨a2, ha⟩ := mr_eq (R := R) (nd := nd) (g := g) (row := g.1 11) (m0 := g.1 10)
    rw [ha]
    exact mr_keep_l 8 (by decide) (by decide) (by decide) (by decide) _ _ _ _ _
  unfold gf_4_moveRow
  generalize gf_4_writeMovedRow R nd g (g.1 11) (g.1 10) = g3 at gm k8 ⊢
  have h3 : RB0 nd g3 := h.q (gm 0 (by simp only [a11]; decide)) (gm 9 (by simp only [a11]; decide)) (gm 10 (by simp only [a11]; decide))
  have st : ∀ n0 m0 f, RB0 nd (gf_4_setSuper R nd g3 n0 m0 f (-1)) := fun _ _ _ => rb0_set (by rw [k8]; exact hs) h3
  repeat' split
  all_goals first
    | exact st _ _ _
    | exact (st _ _ _).cg rfl
theorem move_10 (hnd : nd ≤ 10) : (gf_4_moveRow R nd g).2.1 10 = g.2.1 10 := (GF_move (R := R) (g := g) hnd).1 10 (by simp only [aSu]; omega)
theorem dat_step (hn : 3 ≤ nd ∧ nd ≤ 10) (hR : 2 ≤ R ∧ R ≤ 48) (hb : b ≤ 1000) (h : INV R nd b g t) (hd : DAT R nd b g t) (y : Int64) : DAT R nd (b + 1) (lr_step R nd g y).2.2.1 (mf_step R nd t).2 := by
  have kvT : KV t (mf_step R nd t).2 := by
    have k0 : KV t (si t 0 0) := kv_si (by decide)
    unfold mf_step
    by_cases a0 : t.1 5 = 0
    · rw [if_pos a0]
      exact kv_si (by decide)
    · rw [if_neg a0]
      by_cases a1 : mf_isReshaped R nd (si t 0 0) = 0
      · rw [if_pos a1]
        exact k0
      · rw [if_neg a1]
        by_cases a2 : mf_isRebuilding R nd (si t 0 0) = 0
        · rw [if_pos a2]
          by_cases a3 : mf_isCritical R nd (si t 0 0) = 0
          · rw [if_pos a3]
            exact k0.tr (kv_moves (R := R) (nd := nd))
          · rw [if_neg a3]
            by_cases a4 : (mf_backups R nd (si t 0 0)).1 = 0
            · rw [if_pos a4]
              exact k0.tr (kv_backups (R := R) (nd := nd))
            · rw [if_neg a4]
              exact k0.tr ((kv_backups (R := R) (nd := nd)).tr (kv_moves (R := R) (nd := nd)))
        · rw [if_neg a2]
          exact k0
  generalize (mf_step R nd t).2 = T at kvT ⊢
  unfold lr_step gf_4_step
  rcases h with h | h
  · obtain ⟨hB, hu, hu2, h3, ⟨B, hB1, hB2⟩, hh⟩ := id h
    obtain ⟨S, N, M, F, X, bd, y1, y2, y3, y4, y5, y6, y7, y8, y9, y10⟩ := h.get hn hR (by omega) (hd.2.2.1 hu)
    obtain ⟨s1, s2, n3, nM, m10, f48, nF⟩ := id bd
    have h8 : g.1 8 = nI S := congrArg Prod.fst y5
    have h9 : g.1 9 = nI N := congrArg (fun x : T4 => x.2.1) y5
    have h10 : g.1 10 = nI M := congrArg (fun x : T4 => x.2.2.1) y5
    have h11 : g.1 11 = nI F := congrArg (fun x : T4 => x.2.2.2) y5
    have same : DAT R nd (b + 1) g T := hd.cg rfl rfl kvT rfl rfl
    rw [if_neg (show ¬ g.1 1 = 0 by rw [hu]; decide)]
    by_cases c0 : gf_4_isReshaped R nd g = 0
    · rw [if_pos c0]
      exact same
    · rw [if_neg c0]
      have hNM : N < M := by
        rcases Nat.lt_or_ge N M with q | q
        · exact q
        · exfalso
          apply c0
          unfold gf_4_isReshaped
          rw [h9, h10, if_pos (nI_le q (by omega))]
      by_cases c1 : gf_4_rebuildingDisk R nd g = -1
      · rw [if_pos c1]
        have nr := no_rb hn.2 hB c1
        obtain ⟨gc1, gc2⟩ := gather_ct (R := R) (nd := nd) (g := g)
        obtain ⟨ga1, ga2⟩ := GATH (R := R) (nd := nd) (g := g) hR.2 bd y3 y5 y7.1.2.2 (fun A _ hA g1 e1 e2 e3 => by
          have L1 : lvD nd g1 = lvD nd g := lvD_eq (by rw [e2]) (by rw [e2])
          have ag1 : AG g t g1 t := ⟨fun q _ _ => by rw [e2], fun q z _ => e3 q (by omega), rfl, rfl⟩
          refine UPX.val (S := S) (X := X) hn.2 hR.2 bd y2 y3 (by unfold hl4; rw [e1]; exact y5) (by unfold one9; rw [L1]; exact y9) ?_ hA
          rw [L1]
          exact ag1.upx y7)
        generalize gf_4_gatherRowValues R nd g = g2 at gc1 gc2 ga1 ga2 ⊢
        have L2 : lvD nd g2 = lvD nd g := lvD_eq (by rw [gc2]) (by rw [gc2])
        have ag2 : AG g t g2 t := ⟨fun q _ _ => by rw [gc2], fun q z _ => ga1 q (by omega), rfl, rfl⟩
        have x2 : UPX R (lvD nd g2) S N M F X g2 t := by rw [L2]; exact ag2.upx y7
        have hl2 : hl4 g2 = q4 S N M F := by unfold hl4; rw [gc1]; exact y5
        have sup2 : ∀ d, lvD nd g2 d → sup4 g2 d = q4 S N M F := fun d z => by
          unfold sup4
          rw [gc2]
          exact y6 d (by rw [← L2]; exact z)
        have one2 : one9 nd g2 := by unfold one9; rw [L2]; exact y9
        have hu2' : g2.1 1 = 1 := by rw [gc1]; exact hu
        have nr2 : ∀ d, d < nd → ¬ (g2.2.1 10 d = 0 ∧ g2.2.1 0 d = 0 ∧ ¬ g2.1 3 ≤ nI F) := fun d z w => by
          rw [gc2] at w
          exact nr d z w.1 w.2.1
        have j2 : ∀ d, lvD nd g2 d → ¬ jh g2 (S + 1) d := fun d z w => by
          rw [L2] at z
          exact y10 d z.1 z.2.1 (ag2.hj.mp w)
        have r2 : RB0 nd g2 := hd.2.1.q (by rw [gc2]) (by rw [gc2]) (by rw [gc2])
        have ci := crit_iff (R := R) (nd := nd) (g := g2) (by rw [gc1]; exact h9) (by rw [gc1]; exact h10) (by rw [gc1]; exact h11) n3 nM m10 f48
        have fin : ∀ G : GS, G.2.1 10 = g.2.1 10 → RB0 nd G → ((G.1 1 = 1 ∧ lvD nd G = lvD nd g ∧ UPE R nd G T) ∨ (G.1 1 = 0 ∧ DND R nd G T)) → DAT R nd (b + 1) G T := by
          intro G e10 r0 k
          rcases k with ⟨k1, k2, k3⟩ | ⟨k1, k2⟩
          · exact hd.of_up kvT r0 k1 (k3.up (rbc_of nr e10 k2))
          · exact hd.of_dn kvT r0 k1 k2
        have e8 : ¬ g2.1 8 + 1 = 0 := by rw [gc1, h8, nI_1]; exact nI_ne_s s2
        by_cases cc : gf_4_isCritical R nd g2 = 0
        · rw [if_pos cc]
          have mv := MOVED (T := T) hn hR bd (by omega) hNM y2 y3 hu2' hl2 sup2 one2 (x2.pre s2) (Or.inl (ci.mp cc)) ga2 nr2 j2 kvT.2.1 kvT.1
          rw [L2] at mv
          have res := fin (gf_4_moveRow R nd g2) ((move_10 hn.2).trans (by rw [gc2])) (rb0_move hn.2 e8 r2) mv
          dsimp only
          repeat' split
          all_goals exact res
        · rw [if_neg cc]
          have bk := BKP (R := R) (nd := nd) hn.2 hu2' bd (by rw [gc1]; exact h8) (x2.pre s2) (x2.rfu y3) ga2
          have bkk : ∀ i, ¬ i = 1 → ¬ i = 2 → ¬ i = 5 → ¬ i = 7 → (gf_4_writeBackups R nd g2).1 i = g2.1 i := fun i i1 i2 i5 i7 => bk_keep i i1 i2 i5 i7 _ _ _
          have r3 := rb0_bk (R := R) hn.2 r2
          generalize gf_4_writeBackups R nd g2 = g3 at bk bkk r3 ⊢
          obtain ⟨pre3, rfu3, q3, l3, up3⟩ := bk
          have L3 : lvD nd g3 = lvD nd g2 := lvD_eq (q3 0 (by decide) (by decide)) (q3 10 (by decide) (by decide))
          have sup3 : ∀ d, lvD nd g3 d → sup4 g3 d = q4 S N M F := fun d z => by
            unfold sup4
            rw [q3 0 (by decide) (by decide), q3 1 (by decide) (by decide), q3 2 (by decide) (by decide), q3 3 (by decide) (by decide)]
            exact sup2 d (by rw [← L3]; exact z)
          have res : DAT R nd (b + 1) (gf_4_moveRow R nd g3) T := by
            refine fin _ ((move_10 hn.2).trans (by rw [q3 10 (by decide) (by decide), gc2])) (rb0_move hn.2 (by rw [bkk 8 (by decide) (by decide) (by decide) (by decide)]; exact e8) r3) ?_
            rcases up3 with ⟨u1, u2⟩ | u1
            · have hl3 : hl4 g3 = q4 S N M F := by
                unfold hl4
                rw [bkk 8 (by decide) (by decide) (by decide) (by decide), bkk 9 (by decide) (by decide) (by decide) (by decide), bkk 10 (by decide) (by decide) (by decide) (by decide), bkk 11 (by decide) (by decide) (by decide) (by decide)]
                exact hl2
              have mv := MOVED (R := R) (T := T) (X := X) (t := t) hn hR bd (by omega) hNM y2 y3 u1 hl3 sup3 (by unfold one9; rw [L3]; exact one2) (by rw [L3]; exact pre3) (Or.inr (by rw [L3]; exact u2)) (fun i hi => by rw [l3 1 (by decide)]; exact ga2 i hi) (fun d z w => nr2 d z (by rw [q3 10 (by decide) (by decide), q3 0 (by decide) (by decide), bkk 3 (by decide) (by decide) (by decide) (by decide)] at w; exact w)) (fun d z w => j2 d (by rw [← L3]; exact z) (by unfold jh at *; rw [q3 4 (by decide) (by decide), q3 5 (by decide) (by decide)] at w; exact w)) kvT.2.1 kvT.1
              rw [L3, L2] at mv
              exact mv
            · rw [dn_move u1]
              refine Or.inr ⟨u1, Or.inl ⟨S, N, M, F, bd, sup3, ?_⟩⟩
              rw [fam_eq L3, L3]
              exact AG.dau ⟨fun _ _ _ => rfl, fun _ _ _ => rfl, kvT.2.1, kvT.1⟩ (pre3.dau rfu3)
          dsimp only
          repeat' split
          all_goals exact res
      · rw [if_neg c1]
        exact same
  · rw [if_pos h.2.1]
    exact hd.cg rfl rfl kvT rfl rfl
/-! rebuild -/
theorem dat_rebuild (hn : 3 ≤ nd ∧ nd ≤ 10) (hR : 2 ≤ R ∧ R ≤ 48) (hb : b ≤ 1000) (h : INV R nd b g t) (hd : DAT R nd b g t) (y : Int64) : DAT R nd (b + 1) (lr_rebuild R nd g y).2.2.1 (mf_rebuild R nd t).2 := by
  have kvT : KV t (mf_rebuild R nd t).2 := by
    unfold mf_rebuild
    repeat' split
    all_goals first
      | exact kv_si (by decide)
      | exact (kv_si (by decide)).tr kv_pokes
      | exact (kv_si (by decide)).tr (kv_pokes.tr kv_sets)
      | exact (kv_si (by decide)).tr (kv_pokes.tr (kv_sets.tr ((kv_ti (by decide)).tr (kv_si (by decide)))))
      | exact (kv_si (by decide)).tr (kv_pokes.tr (kv_si (by decide)))
  generalize (mf_rebuild R nd t).2 = T at kvT ⊢
  unfold lr_rebuild gf_4_rebuild
  rcases h with h | h
  · obtain ⟨hB, hu, hu2, h3, ⟨B, hB1, hB2⟩, hh⟩ := id h
    obtain ⟨S, N, M, F, X, bd, y1, y2, y3, y4, y5, y6, y7, y8, y9, y10⟩ := h.get hn hR (by omega) (hd.2.2.1 hu)
    obtain ⟨s1, s2, n3, nM, m10, f48, nF⟩ := id bd
    have h8 : g.1 8 = nI S := congrArg Prod.fst y5
    have h9 : g.1 9 = nI N := congrArg (fun x : T4 => x.2.1) y5
    have h10 : g.1 10 = nI M := congrArg (fun x : T4 => x.2.2.1) y5
    have h11 : g.1 11 = nI F := congrArg (fun x : T4 => x.2.2.2) y5
    have g3 : g.1 3 = nI B := h3.trans hB2
    rw [if_neg (show ¬ g.1 1 = 0 by rw [hu]; decide)]
    rcases rb_eq (R := R) hn.2 hB with ⟨x1, x2⟩ | ⟨i, hi, x1, x2, x3, x4⟩
    · rw [if_pos x1]
      exact hd.cg rfl rfl kvT rfl rfl
    · have hc : (nI i).toNatClampNeg = i := nI_clamp (by omega)
      rw [x1, if_neg (nI_m1 (show i < 2 ^ 31 by omega)), hc, g3]
      have st : g.2.1 10 i = 0 ∧ g.2.1 0 i = 0 := by
        rcases hB.1.2.2.1 i hi (by omega) with ⟨z1, z2⟩ | ⟨z1, z2, z3⟩ | ⟨z1, z2, z3⟩
        · rw [x4] at z1; exact absurd z1 (by decide)
        · rw [x4] at z1; exact absurd z1 (by decide)
        · exact ⟨z2, (hB.1.2.1 i hi).1.trans z3⟩
      have nli : ¬ lvD nd g i := fun z => z.2.2 st.2
      obtain ⟨w3, wM⟩ := wr_le (F := F) (r := B) n3 nM
      have hv : i < wrN N M F B → gf_4_blockDue R nd g (nI i) (nI B) = X i B := by
        intro z
        unfold gf_4_blockDue
        rw [wrow h9 h10 h11 f48 (by omega), if_neg (nI_ge z (by omega)), exl_o (by omega) hB1 hR.2 (by omega)]
        have e : xl (fun d => g.2.2 4 d B) i (wrN N M F B) = xl (fun d => X d B) i (wrN N M F B) := xl_congr _ (fun e he hne => y7.2.1 e B (Classical.byContradiction (fun q => hne (y9 e i (by omega) hi q nli))) hB1 he)
        rw [e]
        exact x_eq ((xl_in (f := fun d => X d B) _ z).trans (y7.1.1 B hB1))
      rcases sp_cases (R := R) (nd := nd) hu with ⟨p1, p2⟩ | ⟨p1, p2⟩
      · rw [p1, if_neg (show ¬ (1 : Int32) = 0 by decide)]
        have sk := fun z h1 h2 h5 h7 => spend_keep (R := R) (nd := nd) (g := g) z h1 h2 h5 h7
        have e3 : (gf_4_spendWrite R nd g).2.1 3 = nI B := (sk 3 (by decide) (by decide) (by decide) (by decide)).trans g3
        have eG : ∀ v, gf_1_takeBlock_d R nd (gf_4_spendWrite R nd g).2 i ((gf_4_spendWrite R nd g).2.1 3) v = gdi (gli (gf_4_spendWrite R nd g).2 4 i B v) 11 i ((gf_4_spendWrite R nd g).2.2.1 11 i + 1) := by
          intro v
          unfold gf_1_takeBlock_d
          rw [e3, if_neg (nI_pos (by omega)), if_neg (nI_ge hB1 (by omega)), nI_clamp (by omega)]
        rw [eG]
        generalize gf_4_blockDue R nd g (nI i) (nI B) = v at hv ⊢
        have a1 : ∀ q, ¬ q = 11 → (gdi (gli (gf_4_spendWrite R nd g).2 4 i B v) 11 i ((gf_4_spendWrite R nd g).2.2.1 11 i + 1)).2.1 q = g.2.1 q := fun q hq => by
          rw [show g.2.1 = (gf_4_spendWrite R nd g).2.2.1 by rw [spend_arr]]
          simp [gdi, gli, va_up, hq]
        have a2 : (gdi (gli (gf_4_spendWrite R nd g).2 4 i B v) 11 i ((gf_4_spendWrite R nd g).2.2.1 11 i + 1)).2.2 = (gli g 4 i B v).2.2 := by
          show (gli (gf_4_spendWrite R nd g).2 4 i B v).2.2 = _
          unfold gli
          rw [spend_arr]
        have a3 : (gdi (gli (gf_4_spendWrite R nd g).2 4 i B v) 11 i ((gf_4_spendWrite R nd g).2.2.1 11 i + 1)).1 = (gf_4_spendWrite R nd g).2.1 := rfl
        generalize gdi (gli (gf_4_spendWrite R nd g).2 4 i B v) 11 i ((gf_4_spendWrite R nd g).2.2.1 11 i + 1) = G1 at a1 a2 a3 ⊢
        have k1 : ∀ z, ¬ z = 1 → ¬ z = 2 → ¬ z = 5 → ¬ z = 7 → G1.1 z = g.1 z := fun z z1 z2 z5 z7 => by rw [a3]; exact sk z z1 z2 z5 z7
        have u1 : G1.1 1 = 1 := by rw [a3]; exact p2
        have c3 : G1.1 3 = nI B := (k1 3 (by decide) (by decide) (by decide) (by decide)).trans g3
        have L1 : lvD nd G1 = lvD nd g := lvD_eq (a1 0 (by decide)) (a1 10 (by decide))
        have bl : ∀ d r, ¬ (d = i ∧ r = B) → G1.2.2 4 d r = g.2.2 4 d r := fun d r z => by
          rw [a2]
          by_cases e : d = i
          · have : ¬ r = B := fun w => z ⟨e, w⟩
            simp [gli, va_up, e, this]
          · simp [gli, va_up, e]
        have bi : G1.2.2 4 i B = v := by rw [a2]; simp [gli, va_up]
        have l2 : ∀ q, ¬ q = 4 → G1.2.2 q = g.2.2 q := fun q hq => by rw [a2]; simp [gli, va_up, hq]
        have x1' : UPX R (lvD nd G1) S N M F X G1 t := by
          rw [L1]
          refine y7.on (fun d z => ⟨fun q _ _ => by rw [a1 q (by omega)], fun q q1 q2 => ?_⟩) KV.rf
          by_cases c : q = 4
          · subst c
            funext r
            exact bl d r (fun w => nli (w.1 ▸ z))
          · rw [l2 q c]
        have r1 : RB0 nd G1 := hd.2.1.q (a1 0 (by decide)) (a1 9 (by decide)) (a1 10 (by decide))
        have rowi : ∀ r, r < B + 1 → r < R → i < wrN N M F r → G1.2.2 4 i r = X i r := by
          intro r z1 z2 z3
          by_cases c : r = B
          · subst c
            rw [bi]
            exact hv z3
          · rw [bl i r (fun w => c w.2)]
            exact y8 i r hi st.1 st.2 (by rw [g3]; exact nI_ge (by omega) (by omega)) z2 z3
        rw [c3, nI_1]
        by_cases cl : nI R ≤ nI (B + 1)
        · rw [if_pos cl]
          have hlast : B + 1 = R := by have := ndle cl (by omega); omega
          have k8 := (k1 8 (by decide) (by decide) (by decide) (by decide)).trans h8
          rw [(k1 9 (by decide) (by decide) (by decide) (by decide)).trans h9, (k1 10 (by decide) (by decide) (by decide) (by decide)).trans h10, (k1 11 (by decide) (by decide) (by decide) (by decide)).trans h11]
          have hin : ∀ d, (lvD nd G1 d ∨ (d < nd ∧ nI d = nI i)) → lvD nd g d ∨ d = i := fun d z => by
            rw [L1] at z
            exact z.imp id (fun w => nI_inj (by omega) (by omega) w.2)
          have key := SETD (R := R) (g := G1) (t := t) (T := T) (S := S) (N := N) (M := M) (F := F) (N2 := N) (M2 := M) (F2 := F) (X2 := X) (jo := nI i) hn.2 u1 k8 bd ⟨by omega, by omega, n3, nM, m10, f48, nF⟩ (fun d z => ?_) (x1'.dau s2 y3) ⟨y7.1, fun d r z1 z2 z3 => ?_, fun d z1 z2 => ?_, fun d z1 => ?_⟩ (fun d _ z => ?_) kvT.2.1 kvT.1
          · have r2 : RB0 nd (gf_4_setSuper R nd G1 (nI N) (nI M) (nI F) (nI i)) := rb0_set (by rw [k8, nI_1]; exact nI_ne_s s2) r1
            generalize gf_4_setSuper R nd G1 (nI N) (nI M) (nI F) (nI i) = G at key r2 ⊢
            rcases key with ⟨v1, v2, v3, v4⟩ | ⟨v1, v2⟩
            · rw [if_neg (show ¬ G.1 1 = 0 by rw [v1]; decide)]
              refine hd.of_up kvT (r2.cg rfl) v1 ⟨S + 1, N, M, F, X, ⟨by omega, by omega, n3, nM, m10, f48, nF⟩, congrArg Prod.fst v2, congrArg (fun x : T4 => x.2.1) v2, congrArg (fun x : T4 => x.2.2.1) v2, congrArg (fun x : T4 => x.2.2.2) v2, v4, fun d r _ _ _ z z2 => ?_⟩
              exfalso
              exact z (nI_pos' (show r < 2 ^ 31 by omega))
            · rw [if_pos v1]
              exact hd.of_dn kvT r2 v1 v2
          · unfold sup4
            rw [a1 0 (by decide), a1 1 (by decide), a1 2 (by decide), a1 3 (by decide)]
            rw [L1] at z
            exact y6 d z
          · rcases hin d z1 with w | w
            · rw [bl d r (fun q => nli (q.1 ▸ w))]
              exact y7.2.1 d r w z2 z3
            · subst w
              exact rowi r (by omega) z2 z3
          · have f : d < nd ∧ g.2.1 10 d = 0 := (hin d z1).elim (fun w => ⟨w.1, w.2.1⟩) (fun w => by rw [w]; exact ⟨hi, st.1⟩)
            refine y10 d f.1 f.2 ?_
            unfold jh at *
            rw [a1 4 (by decide), a1 5 (by decide)] at z2
            exact z2
          · rw [a1 9 (by decide)]
            rcases hin d z1 with w | w
            · obtain ⟨q, q1, q2⟩ := y7.2.2.2.2 d w
              exact ⟨q, by omega, q2⟩
            · exact ⟨0, by omega, by rw [w, hd.2.1 i hi st.1 st.2]; rfl⟩
          · rw [a1 10 (by decide), nI_inj (by omega) (by omega) z]
            exact st.1
        · rw [if_neg cl]
          have hB3 : B + 1 < R := Nat.lt_of_not_le (fun z => cl (nI_le z (by omega)))
          refine hd.of_up kvT (r1.cg rfl) u1 ⟨S, N, M, F, X, bd, (k1 8 (by decide) (by decide) (by decide) (by decide)).trans h8, (k1 9 (by decide) (by decide) (by decide) (by decide)).trans h9, (k1 10 (by decide) (by decide) (by decide) (by decide)).trans h10, (k1 11 (by decide) (by decide) (by decide) (by decide)).trans h11, ?_, fun d r z1 z2 z3 z4 z5 z6 => ?_⟩
          · exact AG.upx (g := G1) (t := t) ⟨fun _ _ _ => rfl, fun _ _ _ => rfl, kvT.2.1, kvT.1⟩ x1'
          · have ed : d = i := y9 d i z1 hi (fun w => w.2.2 (by rw [← a1 0 (by decide)]; exact z3)) nli
            subst ed
            refine rowi r ?_ z5 z6
            exact Nat.lt_of_not_le (fun w => z4 (show (gsi G1 3 (nI (B + 1))).1 3 ≤ nI r from nI_le w (by omega)))
      · rw [p1, if_pos rfl]
        exact hd.of_dn kvT (hd.2.1.cg spend_arr) p2 (up_dead bd y3 y6 y7 spend_arr kvT)
  · rw [if_pos h.2.1]
    exact hd.cg rfl rfl kvT rfl rfl
end WD
