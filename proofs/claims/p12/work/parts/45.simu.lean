/-! ===== open, whole ===== -/
section SIMU
variable {R nd b : Nat} {g : GS} {t : MS} {U : Int32}
/-- the journal that holds is carried out again -/
theorem JOEND {g1 : GS} {i : Nat} {v : Int64} (hn : 3 ≤ nd ∧ nd ≤ 10) (hR : 2 ≤ R ∧ R ≤ 48) (hb : b ≤ 1000) (hB : BI R nd b g t) (hh : ∀ d, d < nd → t.2.1 0 d = 0 → SUP t d = HLD t) (hu : g.1 1 = 1) (h3 : g.1 3 = t.1 7 ∧ t.1 5 = U)
    (hi : i < nd) (li : t.2.1 0 i = 0) (h6 : 0 < t.2.1 6 i) (h7 : t.2.1 7 i = t.1 1) (a1 : g1.2.1 = g.2.1) (a2 : ∀ z, z < 12 → g1.1 z = g.1 z) (o12 : g1.1 12 = g.2.1 4 i) (o13 : g1.1 13 = g.2.1 5 i) (o14 : g1.1 14 = g.2.1 6 i) (o15 : g1.1 15 = g.2.1 7 i) (o16 : g1.1 16 = g.2.1 8 i) :
    ((mf_journaled R nd t (t.2.1 6 i) (t.2.1 8 i) v).1 = 1 ∧ (gf_4_carryOutOrder R nd g1).1 1 = 1 ∧ BI R nd b (gf_4_carryOutOrder R nd g1) (mf_journaled R nd t (t.2.1 6 i) (t.2.1 8 i) v).2 ∧ ((gf_4_carryOutOrder R nd g1).1 3 = (mf_journaled R nd t (t.2.1 6 i) (t.2.1 8 i) v).2.1 7 ∧ (mf_journaled R nd t (t.2.1 6 i) (t.2.1 8 i) v).2.1 5 = U) ∧ (gf_4_carryOutOrder R nd g1).1 3 = g.1 3 ∧ (∀ d, d < nd → (mf_journaled R nd t (t.2.1 6 i) (t.2.1 8 i) v).2.2.1 0 d = 0 → SUP (mf_journaled R nd t (t.2.1 6 i) (t.2.1 8 i) v).2 d = HLD (mf_journaled R nd t (t.2.1 6 i) (t.2.1 8 i) v).2) ∧ (∀ hbk, HB nd nd t hbk → HB nd nd (mf_journaled R nd t (t.2.1 6 i) (t.2.1 8 i) v).2 hbk)) ∨
    ((mf_journaled R nd t (t.2.1 6 i) (t.2.1 8 i) v).1 = 0 ∧ (gf_4_carryOutOrder R nd g1).1 1 = 0 ∧ BI R nd b (gf_4_carryOutOrder R nd g1) (mf_journaled R nd t (t.2.1 6 i) (t.2.1 8 i) v).2 ∧ ((mf_journaled R nd t (t.2.1 6 i) (t.2.1 8 i) v).2.1 5 = 0 ∧ (mf_journaled R nd t (t.2.1 6 i) (t.2.1 8 i) v).2.1 7 = 0)) := by
  obtain ⟨S, N0, M0, F0, e1, e2, e3, e4, f1, f2, f3, f4, r1, r2, r3, r4, r5, r6, r7⟩ := hB.nums
  have ne6 : ¬ t.2.1 6 i = 0 := pos0 h6
  obtain ⟨Q, S9, q1, q2, q3, q4, q5⟩ := hB.2.2.2.2.1 i i hi hi li (by rw [li]; decide) ne6
  rw [hh i hi li] at q2 q5
  have es9 : S9 = S := nI_inj (by omega) (by omega) (q2.symm.trans e1)
  have eQ : Q = S := nI_inj (by omega) (by omega) (q1.symm.trans (h7.trans e1))
  obtain ⟨N, M, F, A, z1, z2, z3, z4, z5, z6, z7, z8, z9, z10⟩ := q5 (eQ.trans es9.symm)
  have eN : t.1 2 = nI N := congrArg (fun x : Int32 × Int32 × Int32 => x.1) z1
  have eM : t.1 3 = nI M := congrArg (fun x : Int32 × Int32 × Int32 => x.2.1) z1
  have eF : t.1 4 = nI F := congrArg (fun x : Int32 × Int32 × Int32 => x.2.2) z1
  have hN : N = N0 := nI_inj (by omega) (by omega) (eN.symm.trans e2)
  have hM : M = M0 := nI_inj (by omega) (by omega) (eM.symm.trans e3)
  have hF : F = F0 := nI_inj (by omega) (by omega) (eF.symm.trans e4)
  subst hN hM hF
  have hA : A < 432 := Nat.lt_of_lt_of_le z7 (Nat.le_trans (Nat.mul_le_mul hR.2 (show N - 1 ≤ 9 by omega)) (by decide))
  obtain ⟨p1, p2, p3, p4, p5, p6, p7⟩ := place_nI (R := R) (nd := nd) e2 e3 e4 f2 f3 f4 (by omega) r4 r3 (by omega) r7 hA
  obtain ⟨w3, wM⟩ := wid_le (F := F) (A := A) r3 r4
  have hrow := row_lt (R := R) (F := F) (A := A) r3 r4 r6 z7
  have hdsk := dsk_lt (A := A) w3
  have hpar := par_lt (A := A) w3
  have dki := hB.1.2.1 i hi
  have hM1 : MM nd nd g1 t := MM_lt a2 a1 hB.1
  have hO : OJ R nd (rowN (widN N M F A) A) (dskN (widN N M F A) A) (parN (widN N M F A) A) (t.2.1 6 i) (t.2.1 8 i) g1 t := by
    refine ⟨?_, ?_, ?_, ?_, ?_, ?_, ?_, ?_⟩
    · rw [o12, dki.2.2.2.2.2.1 ne6]; exact h7
    · rw [o13]; exact dki.2.2.2.2.1
    · rw [o14]; exact z8
    · rw [o15]; exact z9
    · rw [o16]; exact z10
    · rw [z6]; exact p1
    · rw [z6]; exact p2
    · rw [z6]; exact p3
  have hu' : g1.1 1 = 1 := (a2 1 (by decide)).trans hu
  have h3' : g1.1 3 = t.1 7 ∧ t.1 5 = U := ⟨(a2 3 (by decide)).trans h3.1, h3.2⟩
  have key := sim_jo (R := R) (v := v) hn.2 hR.2 (by omega) (by omega) hrow hM1 hu' h3' hO
  have jw0 := jl_w (R := R) (v := v) hn.2 (nd + 1) 0 0 g1 t (by omega) (by omega) hM1 hu' hO
  have gf := GF_carry (R := R) (g := g1) hn.2
  have ks : ∀ z, ¬ sPok z → (mf_journaled R nd t (t.2.1 6 i) (t.2.1 8 i) v).2.1 z = t.1 z := fun z hz => mf_journaled_s z hz
  have ka : ∀ z, 2 ≤ z → ¬ z = 6 → ¬ z = 7 → ¬ z = 8 → (mf_journaled R nd t (t.2.1 6 i) (t.2.1 8 i) v).2.2.1 z = t.2.1 z := fun z x2 x6 x7 x8 => jl_arr _ _ _ _ z x2 x6 x7 x8
  have k3 : (gf_4_carryOutOrder R nd g1).1 3 = g.1 3 := (carry_keep 3 (by decide) (by decide) (by decide) (by decide) _ _ _ _).trans (a2 3 (by decide))
  have jw : JW (t.2.1 6 i) (t.2.1 8 i) (rowN (widN N M F A) A) (dskN (widN N M F A) A) (parN (widN N M F A) A) g t (gf_4_carryOutOrder R nd g1) (mf_journaled R nd t (t.2.1 6 i) (t.2.1 8 i) v).2 := by
    intro d
    have := jw0 d
    unfold JS at this ⊢
    rw [a1] at this
    exact this
  generalize mf_journaled R nd t (t.2.1 6 i) (t.2.1 8 i) v = rT at key jw ks ka
  generalize gf_4_carryOutOrder R nd g1 = G at key jw gf k3
  have hS : ∀ d, SUP rT.2 d = SUP t d := by
    intro d
    unfold SUP
    rw [ka 2 (by decide) (by decide) (by decide) (by decide), ka 3 (by decide) (by decide) (by decide) (by decide), ka 4 (by decide) (by decide) (by decide) (by decide), ka 5 (by decide) (by decide) (by decide) (by decide)]
  have hH : HLD rT.2 = HLD t := by
    unfold HLD
    rw [ks 1 (by decide), ks 2 (by decide), ks 3 (by decide), ks 4 (by decide)]
  have fin : MM nd nd G rT.2 → BI R nd b G rT.2 ∧ ∀ d, d < nd → (rT.2.2.1 0 d = 0 ↔ t.2.1 0 d = 0) := by
    intro hm
    refine BI_jo hB hh hm (by rw [gf.1 10 (by decide), a1]) hS hH (fun d => ?_) (fun x => ?_) (fun q d hd => by rw [gf.2 q d hd, a1])
    · rcases jw d with z | ⟨y1, y2, y3, y4, y5, y6⟩
      · exact Or.inl z
      · exact Or.inr ⟨y2, N, M, F, A, z1, z2, z3, z4, z5, y3.trans z6, z7, y4, y5, y6⟩
    · rcases jw x with z | ⟨-, -, y3, -⟩
      · rw [z.2.2.1]; exact hB.2.2.2.2.2.2.1 x
      · rw [y3]; exact hB.2.2.2.2.2.2.1 i
  rcases key with ⟨d1, d2, d3, d4⟩ | ⟨d1, d2, d3, d4⟩
  · obtain ⟨y1, y2⟩ := fin d3
    refine Or.inl ⟨d1, d2, y1, d4, k3, fun d hd q => by rw [hS, hH]; exact hh d hd ((y2 d hd).mp q), fun hbk hq => ?_⟩
    have e9 : rT.2.2.1 9 = t.2.1 9 := ka 9 (by decide) (by decide) (by decide) (by decide)
    have es : rT.2.1 1 = t.1 1 := ks 1 (by decide)
    rcases hq with ⟨x1, x2⟩ | ⟨x1, d, hd, x2, x3⟩
    · exact Or.inl ⟨x1, fun d h1 h2 h3 => by rw [e9, es]; exact x2 d h1 h2 ((y2 d h2).mp h3)⟩
    · exact Or.inr ⟨x1, d, hd, (y2 d hd).mpr x2, by rw [e9, es]; exact x3⟩
  · exact Or.inr ⟨d1, d2, (fin d4).1, d3⟩
theorem op_open (hn : 3 ≤ nd ∧ nd ≤ 10) (hR : 2 ≤ R ∧ R ≤ 48) (hb : b ≤ 1000) (h : INV R nd b g t) : (gf_4_open R nd g).1 = (mf_open R nd t).1 ∧ INV R nd (b + 1) (gf_4_open R nd g).2 (mf_open R nd t).2 := by
  rcases h with h | h
  · unfold gf_4_open mf_open
    rw [if_neg (show ¬ g.1 1 = 0 by rw [h.2.1]; decide), if_neg (show ¬ t.1 5 = 0 by rw [h.2.2.1]; decide)]
    exact ⟨rfl, INV.th (Or.inl h)⟩
  · obtain ⟨hB, hu, hu2, h7⟩ := id h
    -- what holds
    have hpos : ∀ d, d < nd → (si t 0 0).2.1 0 d = 0 → 0 < (si t 0 0).2.1 2 d := fun d hd q => Geo9.pos (s := SUP t d) (by omega) (hB.2.2.1 d hd q)
    have hex : ∃ d, d < nd ∧ (si t 0 0).2.1 0 d = 0 := by
      by_cases z0 : t.2.1 0 0 = 0
      · exact ⟨0, by omega, z0⟩
      · refine ⟨1, by omega, ?_⟩
        by_cases z1 : t.2.1 0 1 = 0
        · exact z1
        · exact absurd (hB.2.2.2.2.2.1 0 1 (by omega) (by omega) z0 z1) (by decide)
    have hm0 : MM nd nd (gsi g 1 1) (si t 0 0) := hB.1
    obtain ⟨i, G, hi, li, hmax, eF, eG2, eG1, g8, g9, g10, g11, eO⟩ := find_l (R := R) hn.2 hm0 hpos (nd + 1) 0 0 (-1) (gsi g 1 1) (by omega) (by omega) rfl (fun _ _ _ _ _ => rfl) (Or.inl ⟨rfl, rfl, fun d hd => by omega⟩) hex
    have eF : gf_4_findWhatHolds R nd (gsi g 1 1) = gsi G 3 0 := eF
    unfold gf_4_open mf_open
    rw [if_pos hu, if_pos hu2, eO, eF]
    -- that state
    have hB1 : BI R nd b (gsi G 3 0) (si (si (si (si (si t 0 0) 1 ((si t 0 0).2.1 2 i)) 2 ((si t 0 0).2.1 3 i)) 3 ((si t 0 0).2.1 4 i)) 4 ((si t 0 0).2.1 5 i)) := by
      obtain ⟨b1, b2, b3, b4, b5, b6, b7, b8⟩ := hB
      have e21 : (gsi G 3 0).2.1 = g.2.1 := by show G.2.1 = _; rw [eG2]; rfl
      refine ⟨?_, b3 i hi li, b3, b4, fun d e x1 x2 x3 x4 x5 => ?_, b6, b7, fun d hd => by rw [e21]; exact b8 d hd⟩
      · obtain ⟨⟨s1, s2, s3, s4, s5, s6, s7, s8, s9⟩, m⟩ := b1
        refine ⟨⟨?_, ?_, ?_, ?_, ?_, g8, g9, g10, g11⟩, ?_⟩
        · show G.1 2 = t.1 6; rw [eG1 2 (by decide) (by decide) (by decide) (by decide)]; exact s1
        · show G.1 4 = t.1 8; rw [eG1 4 (by decide) (by decide) (by decide) (by decide)]; exact s2
        · show G.1 5 = t.1 9; rw [eG1 5 (by decide) (by decide) (by decide) (by decide)]; exact s3
        · show G.1 6 = t.1 10; rw [eG1 6 (by decide) (by decide) (by decide) (by decide)]; exact s4
        · show G.1 7 = t.1 11; rw [eG1 7 (by decide) (by decide) (by decide) (by decide)]; exact s5
        · unfold dE stE at m ⊢
          rw [e21]
          exact m
      · obtain ⟨Q, S, q1, q2, q3, q4, q5⟩ := b5 d e x1 x2 x3 x4 x5
        exact ⟨Q, S, q1, q2, q3, q4, fun z => (q5 z).same ⟨rfl, rfl, rfl, by rw [e21], by rw [e21], by rw [e21]⟩⟩
    have u1 : (gsi G 3 0).1 1 = 1 := by show G.1 1 = 1; rw [eG1 1 (by decide) (by decide) (by decide) (by decide)]; rfl
    have z3 : (gsi G 3 0).1 3 = 0 := by simp [gsi, va_up]
    generalize eT1 : si (si (si (si (si t 0 0) 1 ((si t 0 0).2.1 2 i)) 2 ((si t 0 0).2.1 3 i)) 3 ((si t 0 0).2.1 4 i)) 4 ((si t 0 0).2.1 5 i) = T1 at hB1 ⊢
    have t7 : T1.1 7 = 0 := by rw [← eT1]; exact h7
    have t5 : T1.1 5 = 0 := by rw [← eT1]; exact hu2
    have t0 : T1.1 0 = 0 := by rw [← eT1]; rfl
    have l1 : T1.2.1 0 i = 0 := by rw [← eT1]; exact li
    have s1 : SUP T1 i = HLD T1 := by rw [← eT1]; rfl
    generalize gsi G 3 0 = G1 at hB1 u1 z3 ⊢
    -- the supers alike
    have lk : (gf_4_levelSupers R nd G1).1 3 = G1.1 3 := lev_keep 3 (by decide) (by decide) (by decide) (by decide) _ _ _
    have lev := lev_l (R := R) (U := 0) hn.2 hb hi (nd + 1) 0 G1 T1 (by omega) (by omega) hB1 u1 ⟨by rw [z3, t7], t5⟩ t0 l1 s1 (fun d hd => by omega)
    rw [show gg_4_levelSupers_2 R nd (nd + 1) 0 G1 = gf_4_levelSupers R nd G1 from rfl] at lev
    generalize gf_4_levelSupers R nd G1 = L at lev lk ⊢
    rcases lev with ⟨T, v1, v2, v3, v4, v5, v6⟩ | ⟨v1, v2, v3, v4, v5⟩
    · rw [v1, if_neg (show ¬ L.1 1 = 0 by rw [v2]; decide)]
      obtain ⟨jn, hbk, la, G2, y1, y2, y3, y4⟩ := rep_l (R := R) hn.2 v3.1 (nd + 1) 0 0 (-1) 0 L (by omega) (by omega) (Or.inl ⟨rfl, rfl, rfl⟩) (Or.inl ⟨rfl, fun d hd => by omega⟩)
      have y2 : gf_4_replayJournal R nd L = if la = 0 then (0, G2) else (1, gf_4_carryOutOrder R nd G2) := y2
      rw [y1, y2]
      unfold oJ
      rcases y3 with ⟨j1, j2, j3⟩ | ⟨k, hk, j1, j2, j3, j4, j5, j6, j7, j8, j9, j10, j11, j12⟩
      · subst j3
        rw [if_pos j1, if_pos j2, if_pos (show ((0 : Int32), G2).1 = 0 from rfl), if_neg (show ¬ ((0 : Int32), G2).2.1 1 = 0 by show ¬ G2.1 1 = 0; rw [v2]; decide)]
        have fin := oEND (a0 := 1) (a4 := 1 + 4) hn hR hb v3 v6 v2 v4 (lk.trans z3) y4
        exact fin
      · rw [if_neg (show ¬ jn = -1 by rw [j1]; exact nI_m1 (by omega)), if_neg (show ¬ la = 0 by rw [j3]; exact pos0 j4), j1, nI_clamp (by omega)]
        rw [if_neg (show ¬ ((1 : Int32), gf_4_carryOutOrder R nd G2).1 = 0 by show ¬ (1 : Int32) = 0; decide)]
        dsimp only
        have jo := JOEND (R := R) (U := 0) (v := T.2.2 0 k) hn hR hb v3 v6 v2 v4 hk j2 j4 j5 j6 j7 j8 j9 j10 j11 j12
        generalize mf_journaled R nd T (T.2.1 6 k) (T.2.1 8 k) (T.2.2 0 k) = rT at jo ⊢
        generalize gf_4_carryOutOrder R nd G2 = P at jo ⊢
        rcases jo with ⟨x1, x2, x3, x4, x5, x6, x7⟩ | ⟨x1, x2, x3, x4⟩
        · rw [x1, if_neg (show ¬ (1 : Int32) = 0 by decide), if_neg (show ¬ P.1 1 = 0 by rw [x2]; decide)]
          have fin := oEND (a0 := 1 + 2) (a4 := 1 + 2 + 4) hn hR hb x3 x6 x2 x4 (x5.trans (lk.trans z3)) (x7 hbk y4)
          exact fin
        · rw [x1, if_pos rfl, if_pos x2, dn_set x2, if_pos x2]
          exact ⟨rfl, Or.inr ⟨x3.mono, x2, x4⟩⟩
    · rw [if_pos v2, if_pos v2, dn_set v2, if_pos v2, v1]
      exact ⟨rfl, Or.inr ⟨v3.mono, v2, v4⟩⟩
end SIMU
