/-! ===== THE BLOCKS: open, both sides; the fresh object; the whole run ===== -/
section OI9
variable {R nd b : Nat} {g : GS} {t : MS}
theorem dat_open (hn : 3 ≤ nd ∧ nd ≤ 10) (hR : 2 ≤ R ∧ R ≤ 48) (hb : b ≤ 1000) (h : INV R nd b g t) (hd : DAT R nd b g t) : DAT R nd (b + 1) (gf_4_open R nd g).2 (mf_open R nd t).2 := by
  rcases h with h | h
  · unfold gf_4_open mf_open
    rw [if_neg (show ¬ g.1 1 = 0 by rw [h.2.1]; decide), if_neg (show ¬ t.1 5 = 0 by rw [h.2.2.1]; decide)]
    exact hd.th
  · obtain ⟨hB, hu, hu2, h7⟩ := id h
    have hpos : ∀ d, d < nd → (si t 0 0).2.1 0 d = 0 → 0 < (si t 0 0).2.1 2 d := fun d hd q => Geo9.pos (s := SUP t d) (by omega) (hB.2.2.1 d hd q)
    have hex : ∃ d, d < nd ∧ (si t 0 0).2.1 0 d = 0 := by
      rcases one_01 (one_of hB hn.2) hn.1 with z | z
      · exact ⟨0, (lvT hB.1 hn.2).mp z⟩
      · exact ⟨1, (lvT hB.1 hn.2).mp z⟩
    have hm0 : MM nd nd (gsi g 1 1) (si t 0 0) := hB.1
    obtain ⟨i, G, hi, li, hmax, eF, eG2, eG1, g8, g9, g10, g11, eO⟩ := find_l (R := R) hn.2 hm0 hpos (nd + 1) 0 0 (-1) (gsi g 1 1) (by omega) (by omega) rfl (fun _ _ _ _ _ => rfl) (Or.inl ⟨rfl, rfl, fun d hd => by omega⟩) hex
    have eF : gf_4_findWhatHolds R nd (gsi g 1 1) = gsi G 3 0 := eF
    unfold gf_4_open mf_open
    rw [if_pos hu, if_pos hu2, eO, eF]
    have hB1 : BI R nd b (gsi G 3 0) (si (si (si (si (si t 0 0) 1 ((si t 0 0).2.1 2 i)) 2 ((si t 0 0).2.1 3 i)) 3 ((si t 0 0).2.1 4 i)) 4 ((si t 0 0).2.1 5 i)) := by
      obtain ⟨b1, b2, b3, b4, b5, b6, b7, b8⟩ := hB
      have e21 : (gsi G 3 0).2.1 = g.2.1 := by show G.2.1 = _; rw [eG2]; rfl
      refine ⟨?_, b3 i hi li, b3, b4, fun d e x1 x2 x3 x4 x5 => ?_, b6, b7, fun d hd => by rw [e21]; exact b8 d hd⟩
      · obtain ⟨⟨s1, s2, s3, s4, s5, s6, s7, s8, s9⟩, m⟩ := b1
        refine ⟨⟨?_, ?_, ?_, ?_, ?_, g8, g9, g10, g11⟩, ?_⟩
        · show G.1 2 = t.1 6; rw [eG1 2 (by decide) (by decide) (by decide) (by decide)]; exact s1
        · show G.1 4 = t.1 8; rw [eG1 4 (by decide) (by decide) (by decide) (by decide)]; exact s2
        · show G.1 5 = t.1 9; rw [eG1 5 (by decide) (by decide) (by decide) (by decide)]; exact s3
        · show G.1 6 = t.1 10; rw [eG1 6 (by decide) (by decide) (by decide) (by decide)]; exact s4
        · show G.1 7 = t.1 11; rw [eG1 7 (by decide) (by decide) (by decide) (by decide)]; exact s5
        · unfold dE stE at m ⊢
          rw [e21]
          exact m
      · obtain ⟨Q, S, q1, q2, q3, q4, q5⟩ := b5 d e x1 x2 x3 x4 x5
        exact ⟨Q, S, q1, q2, q3, q4, fun z => (q5 z).same ⟨rfl, rfl, rfl, by rw [e21], by rw [e21], by rw [e21]⟩⟩
    have u1 : (gsi G 3 0).1 1 = 1 := by show G.1 1 = 1; rw [eG1 1 (by decide) (by decide) (by decide) (by decide)]; rfl
    have z3 : (gsi G 3 0).1 3 = 0 := by simp [gsi, va_up]
    have eA : (gsi G 3 0).2 = g.2 := by show G.2 = g.2; rw [eG2]; rfl
    have eH : hl4 (gsi G 3 0) = sup4 g i := by
      rw [sup_eq hB.1 hi]
      show (G.1 8, G.1 9, G.1 10, G.1 11) = SUP t i
      rw [g8, g9, g10, g11]
      rfl
    have kv1 : KV t (si (si (si (si (si t 0 0) 1 ((si t 0 0).2.1 2 i)) 2 ((si t 0 0).2.1 3 i)) 3 ((si t 0 0).2.1 4 i)) 4 ((si t 0 0).2.1 5 i)) := ((((kv_si (by decide)).tr (kv_si (by decide))).tr (kv_si (by decide))).tr (kv_si (by decide))).tr (kv_si (by decide))
    generalize eT1 : si (si (si (si (si t 0 0) 1 ((si t 0 0).2.1 2 i)) 2 ((si t 0 0).2.1 3 i)) 3 ((si t 0 0).2.1 4 i)) 4 ((si t 0 0).2.1 5 i) = T1 at hB1 kv1 ⊢
    have t7 : T1.1 7 = 0 := by rw [← eT1]; exact h7
    have t5 : T1.1 5 = 0 := by rw [← eT1]; exact hu2
    have t0 : T1.1 0 = 0 := by rw [← eT1]; rfl
    have l1 : T1.2.1 0 i = 0 := by rw [← eT1]; exact li
    have s1 : SUP T1 i = HLD T1 := by rw [← eT1]; rfl
    generalize gsi G 3 0 = G1 at hB1 u1 z3 eA eH ⊢
    obtain ⟨⟨c, hc, ec⟩, hr0, -, hdn⟩ := id hd
    have li' : lvD nd g i := (lvT hB.1 hn.2).mpr ⟨hi, li⟩
    have hmax' : ∀ d, lvD nd g d → g.2.1 0 d ≤ g.2.1 0 i := fun d z => by
      have z2 := (lvT hB.1 hn.2).mp z
      rw [(hB.1.2.1 d z2.1).1, (hB.1.2.1 i hi).1]
      exact hmax d z2.1 z2.2
    have levd := fun (T : MS) (hT : KV t T) => LEVD (R := R) hn hb hB (hdn hu) li' hmax' eA u1 eH hT
    have lk : (gf_4_levelSupers R nd G1).1 3 = G1.1 3 := lev_keep 3 (by decide) (by decide) (by decide) (by decide) _ _ _
    have lkh : hl4 (gf_4_levelSupers R nd G1) = hl4 G1 := by
      have e := fun z a b c d => lev_keep (R := R) (nd := nd) z a b c d (nd + 1) 0 G1
      show ((gg_4_levelSupers_2 R nd (nd + 1) 0 G1).1 8, (gg_4_levelSupers_2 R nd (nd + 1) 0 G1).1 9, (gg_4_levelSupers_2 R nd (nd + 1) 0 G1).1 10, (gg_4_levelSupers_2 R nd (nd + 1) 0 G1).1 11) = _
      rw [e 8 (by decide) (by decide) (by decide) (by decide), e 9 (by decide) (by decide) (by decide) (by decide), e 10 (by decide) (by decide) (by decide) (by decide), e 11 (by decide) (by decide) (by decide) (by decide)]
      rfl
    have rL : RB0 nd (gf_4_levelSupers R nd G1) := rb0_lev_l (nd + 1) 0 G1 (by rw [show G1.1 8 = g.2.1 0 i from congrArg Prod.fst eH]; exact li'.2.2) (hr0.cg eA)
    have lev := lev2 (R := R) (U := 0) hn.2 hb hi (nd + 1) 0 G1 T1 (by omega) (by omega) hB1 u1 ⟨by rw [z3, t7], t5⟩ t0 l1 s1 (fun d hd => by omega)
    rw [show gg_4_levelSupers_2 R nd (nd + 1) 0 G1 = gf_4_levelSupers R nd G1 from rfl] at lev
    generalize gf_4_levelSupers R nd G1 = L at lev lk lkh rL levd ⊢
    rcases lev with ⟨T, v1, v2, v3, v4, v5, v6, v7⟩ | ⟨v1, v2, v3, v4, v5, v6⟩
    · rw [v1, if_neg (show ¬ L.1 1 = 0 by rw [v2]; decide)]
      have kvT : KV t T := kv1.tr v7
      obtain ⟨eL, lc⟩ := levd T kvT
      have lc := lc.elim id (fun z => absurd (v2.symm.trans z.1) (by decide))
      obtain ⟨-, S, N, M, F, bd, hl1, hsup, dau⟩ := lc
      obtain ⟨s1', s2', n3, nM, m10, f48, nF⟩ := id bd
      have hl : hl4 L = q4 S N M F := lkh.trans hl1
      obtain ⟨S0, N0, M0, F0, e1, e2, e3, e4, f1, f2, f3, f4, r1, r2, r3, r4, r5, r6, r7⟩ := v3.nums
      have eS : S = S0 := nI_inj (by omega) (by omega) ((show L.1 8 = nI S from congrArg Prod.fst hl).symm.trans f1)
      have eN : N = N0 := nI_inj (by omega) (by omega) ((show L.1 9 = nI N from congrArg (fun x : T4 => x.2.1) hl).symm.trans f2)
      have eM : M = M0 := nI_inj (by omega) (by omega) ((show L.1 10 = nI M from congrArg (fun x : T4 => x.2.2.1) hl).symm.trans f3)
      have eF0 : F = F0 := nI_inj (by omega) (by omega) ((show L.1 11 = nI F from congrArg (fun x : T4 => x.2.2.2) hl).symm.trans f4)
      subst eS eN eM eF0
      have one : one9 nd L := one_of v3 hn.2
      have hj := noj hn (by omega) v3 v6 e1 (by omega)
      have famL : fam nd L = fam nd g := fam_eq eL
      rw [← famL, ← eL] at dau
      rw [← eL] at hsup
      obtain ⟨jn, hbk, la, G2, y1, y2, y3, y4⟩ := rep2 (R := R) hn.2 v3.1 (nd + 1) 0 0 (-1) 0 L (by omega) (by omega) (Or.inl ⟨rfl, rfl, rfl, fun d hd => by omega⟩) (Or.inl ⟨rfl, fun d hd => by omega⟩)
      have y2 : gf_4_replayJournal R nd L = if la = 0 then (0, G2) else (1, gf_4_carryOutOrder R nd G2) := y2
      rw [y1, y2]
      unfold oJ
      rcases y3 with ⟨j1, j2, j3, j4⟩ | ⟨k, hk, j1, j2, j3, j4, j5, j6, j7, j8, j9, j10, j11, j12, j13, j14, j15⟩
      · subst j3
        rw [if_pos j1, if_pos j2, if_pos (show ((0 : Int32), G2).1 = 0 from rfl), if_neg (show ¬ ((0 : Int32), G2).2.1 1 = 0 by show ¬ G2.1 1 = 0; rw [v2]; decide)]
        have nh : ∀ d, lvD nd G2 d → ¬ jh G2 S d := by
          intro d z1 z2
          have z3 := (lvT v3.1 hn.2).mp z1
          have dk := v3.1.2.1 d z3.1
          have p6 : 0 < T.2.1 6 d := by rw [← dk.2.2.2.2.1]; exact z2.2
          exact j4 d z3.1 z3.1 z3.2 ⟨p6, by rw [← dk.2.2.2.2.2.1 (pos0 p6), e1]; exact z2.1⟩
        obtain ⟨X, d1, d2, d3, d4⟩ := dau.2.1 ⟨_, Or.inl rfl, nh⟩
        have fin := OEND (R := R) (T := (oT R nd 1 (1 + 4) T hbk).2) (a0 := 1) (a4 := 1 + 4) hn hR bd (by omega) r5 r6 v3.1 v2 (lk.trans z3) hl hsup one ⟨d1, fun d r x1 x2 x3 x4 => d2 d r x1 x2 x3 (fun w => w) x4, fun d x1 x2 => absurd x2 (nh d x1), dau.2.2.1, dau.2.2.2, d4⟩ d3 (fun d z => hj d z.1 z.2.1) rL kv_oT
        have kvF : KV t (oT R nd 1 (1 + 4) T hbk).2 := kvT.tr kv_oT
        obtain ⟨q1, q2, q3⟩ := fin
        show DAT R nd (b + 1) (cT R nd 1 (1 + 4) G2).2 (oT R nd 1 (1 + 4) T hbk).2
        refine ⟨⟨c, by omega, kvF.2.2.trans ec⟩, q1, fun w => ?_, fun w => ?_⟩
        · exact q3.elim (fun x => x.2.up0 hR.2 q2) (fun x => absurd (x.1.symm.trans w) (by decide))
        · exact q3.elim (fun x => absurd (x.1.symm.trans w) (by decide)) (fun x => x.2)
      · rw [if_neg (show ¬ jn = -1 by rw [j1]; exact nI_m1 (by omega)), if_neg (show ¬ la = 0 by rw [j3]; exact pos0 j4), j1, nI_clamp (by omega)]
        rw [if_neg (show ¬ ((1 : Int32), gf_4_carryOutOrder R nd G2).1 = 0 by show ¬ (1 : Int32) = 0; decide)]
        dsimp only
        have jo := JOEND (R := R) (U := 0) (v := T.2.2 0 k) hn hR hb v3 v6 v2 v4 hk j2 j4 j5 j6 j7 j8 j9 j10 j11 j12
        have lk9 : lvD nd L k := (lvT v3.1 hn.2).mpr ⟨hk, j2⟩
        have dkk := v3.1.2.1 k hk
        have hjk : jh L S k := ⟨by rw [dkk.2.2.2.2.2.1 (pos0 j4), j5]; exact e1, by rw [dkk.2.2.2.2.1]; exact j4⟩
        obtain ⟨A, v, p, X, ⟨d1, d2, d3, d4, d5, d6, d7⟩, hA, hX, hDK⟩ := dau.1 k lk9 hjk
        have L2 : lvD nd G2 = lvD nd L := lvD_eq (by rw [j6]) (by rw [j6])
        have ag2 : AG L T G2 T := ⟨fun q _ _ => by rw [j6], fun q z _ => j15 q (by omega), rfl, rfl⟩
        have hM2 : MM nd nd G2 T := MM_lt j7 j6 v3.1
        rw [d6, d7] at jo ⊢
        have hOC : ((mf_journaled R nd T (T.2.1 6 k) (nI A) v).1 = 1 ∧ (gf_4_carryOutOrder R nd G2).1 1 = 1) ∨ ((mf_journaled R nd T (T.2.1 6 k) (nI A) v).1 = 0 ∧ (gf_4_carryOutOrder R nd G2).1 1 = 0) := jo.imp (fun z => ⟨z.1, z.2.1⟩) (fun z => ⟨z.1, z.2.1⟩)
        have car := CAR (R := R) (g := G2) (t := T) (q := T.2.1 6 k) (X := X) (p := p) hn hR.2 bd r5 r6 hA hM2 ((j7 1 (by decide)).trans v2) (j8.trans hjk.1) e1 (j9.trans dkk.2.2.2.2.1) j4 (j10.trans d1) (j11.trans d2) (j12.trans d3) (j13.trans d4) (j14.trans d5) (by unfold one9; rw [L2]; exact one) (by rw [fam_eq L2, L2]; exact ag2.dau dau) hX (by rw [fam_eq L2, L2]; exact ag2.dku hDK) hOC
        have ks : (mf_journaled R nd T (T.2.1 6 k) (nI A) v).2.1 8 = T.1 8 := mf_journaled_s 8 (by decide)
        have gk : ∀ i, ¬ i = 1 → ¬ i = 2 → ¬ i = 5 → ¬ i = 7 → (gf_4_carryOutOrder R nd G2).1 i = G2.1 i := fun i i1 i2 i5 i7 => carry_keep i i1 i2 i5 i7 _ _ _ _
        generalize mf_journaled R nd T (T.2.1 6 k) (nI A) v = rT at jo car ks ⊢
        generalize gf_4_carryOutOrder R nd G2 = P at jo car gk ⊢
        obtain ⟨k1, k2⟩ := car
        rw [L2, fam_eq L2] at k2
        have LP : lvD nd P = lvD nd L := (lvD_eq (k1 0 (by omega)) (k1 10 (by omega))).trans L2
        have sP : ∀ d, sup4 P d = sup4 L d := fun d => by
          unfold sup4
          rw [k1 0 (by omega), k1 1 (by omega), k1 2 (by omega), k1 3 (by omega), j6]
        have rP : RB0 nd P := rL.q (by rw [k1 0 (by omega), j6]) (by rw [k1 9 (by omega), j6]) (by rw [k1 10 (by omega), j6])
        have supP : ∀ d, lvD nd P d → sup4 P d = q4 S N M F := fun d z => (sP d).trans (hsup d (by rw [← LP]; exact z))
        rcases jo with ⟨x1, x2, x3, x4, x5, x6, x7⟩ | ⟨x1, x2, x3, x4⟩
        · rw [x1, if_neg (show ¬ (1 : Int32) = 0 by decide), if_neg (show ¬ P.1 1 = 0 by rw [x2]; decide)]
          have k2 := k2.elim (fun z => absurd (x1.symm.trans z.1) (by decide)) id
          obtain ⟨-, -, w1, w2, w3, w4, w5⟩ := k2
          have m9 : P.2.1 9 = L.2.1 9 := by rw [k1 9 (by omega), j6]
          have mt : ∀ d r, lvD nd L d → (L.2.2 4 d r = X d r ∨ cel N M F A d r) → P.2.2 4 d r = X d r := fun d r z1 z2 => w5 d r (Or.inl (by rw [L2]; exact z1)) (by rw [j15 4 (by decide)]; exact z2)
          have pre : PRE R (lvD nd P) S N M F X P rT.2 := by
            rw [LP]
            refine ⟨by rw [w1]; exact hDK.1, fun d r z1 z2 z3 z4 => mt d r z1 ?_, w2, w3, by rw [m9]; exact dau.2.2.2, ?_⟩
            · by_cases cc : cel N M F A d r
              · exact Or.inr cc
              · exact Or.inl (hDK.2.1 d r z1 z2 z3 cc z4)
            · have := hDK.2.2.2
              unfold BKR at *
              rw [m9, w4, j15 3 (by decide), w1]
              exact this
          have rfu : RFU (lvD nd P) (fam nd P) S N M F (fun _ _ => False) X P := by
            rw [fam_eq LP, LP]
            refine hDK.2.2.1.imp (fun z d z1 z2 _ => mt d F z1 ?_) (fun z => ⟨z.1, z.2.imp id (fun w l hl => by rw [m9]; exact w l hl)⟩)
            by_cases cc : cel N M F A d F
            · exact Or.inr cc
            · exact Or.inl (z d z1 z2 cc)
          have hlP : hl4 P = q4 S N M F := by
            unfold hl4
            rw [gk 8 (by decide) (by decide) (by decide) (by decide), gk 9 (by decide) (by decide) (by decide) (by decide), gk 10 (by decide) (by decide) (by decide) (by decide), gk 11 (by decide) (by decide) (by decide) (by decide), j7 8 (by decide), j7 9 (by decide), j7 10 (by decide), j7 11 (by decide)]
            exact hl
          have eP1 : rT.2.1 1 = nI S := by
            have := congrArg Prod.fst ((hld_eq x3.1).symm.trans hlP)
            exact this
          have hjP := noj hn (by omega) x3 x6 eP1 (by omega)
          have fin := OEND (R := R) (T := (oT R nd (1 + 2) (1 + 2 + 4) rT.2 hbk).2) (a0 := 1 + 2) (a4 := 1 + 2 + 4) hn hR bd (by omega) r5 r6 x3.1 x2 (x5.trans (lk.trans z3)) hlP supP (one_of x3 hn.2) pre rfu (fun d z => hjP d z.1 z.2.1) rP kv_oT
          have kvF : KV rT.2 (oT R nd (1 + 2) (1 + 2 + 4) rT.2 hbk).2 := kv_oT
          obtain ⟨q1, q2, q3⟩ := fin
          show DAT R nd (b + 1) (cT R nd (1 + 2) (1 + 2 + 4) P).2 (oT R nd (1 + 2) (1 + 2 + 4) rT.2 hbk).2
          refine ⟨⟨c, by omega, kvF.2.2.trans (ks.trans (kvT.2.2.trans ec))⟩, q1, fun w => ?_, fun w => ?_⟩
          · exact q3.elim (fun x => x.2.up0 hR.2 q2) (fun x => absurd (x.1.symm.trans w) (by decide))
          · exact q3.elim (fun x => absurd (x.1.symm.trans w) (by decide)) (fun x => x.2)
        · rw [x1, if_pos rfl, if_pos x2, dn_set x2, if_pos x2]
          have k2 := k2.elim id (fun z => absurd (x1.symm.trans z.1) (by decide))
          show DAT R nd (b + 1) P rT.2
          refine ⟨⟨c, by omega, ks.trans (kvT.2.2.trans ec)⟩, rP, fun w => absurd (x2.symm.trans w) (by decide), fun _ => Or.inl ⟨S, N, M, F, bd, supP, ?_⟩⟩
          rw [fam_eq LP, LP]
          exact k2.2.2
    · rw [if_pos v2, if_pos v2, dn_set v2, if_pos v2]
      have kvF : KV t (mg_open_115 R nd (nd + 1) 0 T1).2 := kv1.tr v6
      obtain ⟨eL, lc⟩ := levd _ kvF
      have lc := lc.elim (fun z => absurd (v2.symm.trans z.1) (by decide)) id
      exact ⟨⟨c, by omega, kvF.2.2.trans ec⟩, rL, fun w => absurd (v2.symm.trans w) (by decide), fun _ => lc.2⟩
/-! the fresh object -/
theorem DAT_0 (hR : 2 ≤ R ∧ R ≤ 48) (hn : 3 ≤ nd ∧ nd ≤ 7) : DAT R nd 1 (g00 nd) (mf_init R nd) := by
  have v0 : (mf_init R nd).2.2 = fun _ _ => 0 := by
    unfold mf_init
    obtain ⟨a1, a2, a3, a4⟩ := mg_init_sp (R := R) (nd := nd) (by omega) (nd + 1) 0 (si (si (si mt00 1 1) 2 (nI nd)) 3 (nI nd)) (by omega) (by omega)
    rw [a2]
    rfl
  have s8 : (mf_init R nd).1 8 = 0 := by
    unfold mf_init
    obtain ⟨a1, a2, a3, a4⟩ := mg_init_sp (R := R) (nd := nd) (by omega) (nd + 1) 0 (si (si (si mt00 1 1) 2 (nI nd)) 3 (nI nd)) (by omega) (by omega)
    rw [a1]
    rfl
  refine ⟨⟨0, by omega, s8⟩, fun d h1 h2 h3 => by simp [g00], fun _ => ⟨1, nd, nd, 0, fun _ _ => 0, ⟨by omega, by omega, hn.1, Nat.le_refl _, by omega, by omega, fun _ => rfl⟩, rfl, rfl, rfl, rfl, ⟨⟨fun r hr => ?_, fun A hA => ?_, fun A hA => ?_⟩, fun d r h1 h2 h3 => rfl, fun d h1 h2 => ?_, fun d e f h1 h2 => ?_, fun d h1 => ⟨0, by omega, by rw [nI_0]; simp [g00]⟩⟩, fun d r h1 h2 h3 h4 h5 h6 => rfl⟩, fun z => absurd (show (1 : Int32) = 0 from z) (by decide)⟩
  · have : ∀ n, xr (fun _ => (0 : Int64)) n = 0 := by
      intro n
      induction n with
      | zero => rfl
      | succ n ih => rw [xr, ih]; rfl
    exact this _
  · rw [v0]
  · rw [v0]
  · exact absurd h2.2 (by show ¬ (0 : Int32) < (g00 nd).2.1 5 d; simp [g00])
  · exact absurd h2.2 (by show ¬ (0 : Int32) < (g00 nd).2.1 5 d; simp [g00])
end OI9
