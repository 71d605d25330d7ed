/-! ===== THE BLOCKS: open, the parts of it on both sides ===== -/
section OE
variable {R nd b : Nat} {g : GS} {t : MS} {U : Int32}
def RS2 (nd k : Nat) (g : GS) (t : MS) (jn la : Int32) (g1 : GS) : Prop := (jn = -1 ∧ la = 0 ∧ g1 = g ∧ ∀ d, d < k → d < nd → t.2.1 0 d = 0 → ¬ (0 < t.2.1 6 d ∧ t.2.1 7 d = t.1 1)) ∨ ∃ i, i < nd ∧ jn = nI i ∧ t.2.1 0 i = 0 ∧ la = t.2.1 6 i ∧ 0 < t.2.1 6 i ∧ t.2.1 7 i = t.1 1 ∧ g1.2.1 = g.2.1 ∧ (∀ z, z < 12 → g1.1 z = g.1 z) ∧ g1.1 12 = g.2.1 4 i ∧ g1.1 13 = g.2.1 5 i ∧ g1.1 14 = g.2.1 6 i ∧ g1.1 15 = g.2.1 7 i ∧ g1.1 16 = g.2.1 8 i ∧ g1.2.2 0 0 0 = g.2.2 2 i 0 ∧ g1.2.2 0 0 1 = g.2.2 2 i 1 ∧ ∀ z, ¬ z = 0 → g1.2.2 z = g.2.2 z
theorem RS2.skip {k : Nat} {jn la : Int32} {g1 : GS} (h : RS2 nd k g t jn la g1) (hk : t.2.1 0 k = 0 → ¬ (0 < t.2.1 6 k ∧ t.2.1 7 k = t.1 1)) : RS2 nd (k + 1) g t jn la g1 := by
  refine h.imp (fun q => ⟨q.1, q.2.1, q.2.2.1, fun d h1 h2 h3 => ?_⟩) id
  rcases Nat.lt_or_ge d k with z | z
  · exact q.2.2.2 d z h2 h3
  · have e : d = k := by omega
    rw [e] at h3 ⊢
    exact hk h3
theorem RS2.to {k : Nat} {jn la : Int32} {g1 : GS} (h : RS2 nd k g t jn la g1) (hk : nd ≤ k) : RS2 nd nd g t jn la g1 := h.imp (fun q => ⟨q.1, q.2.1, q.2.2.1, fun d h1 h2 h3 => q.2.2.2 d (by omega) h2 h3⟩) id
theorem lev2 (hnd : nd ≤ 10) (hb : b ≤ 1000) {i : Nat} (hi : i < nd) : ∀ (j k : Nat) (g1 : GS) (t1 : MS), k ≤ nd → nd < k + j → BI R nd b g1 t1 → g1.1 1 = 1 → (g1.1 3 = t1.1 7 ∧ t1.1 5 = U) → t1.1 0 = 0 → t1.2.1 0 i = 0 → SUP t1 i = HLD t1 → (∀ d, d < k → d < nd → t1.2.1 0 d = 0 → SUP t1 d = HLD t1) →
    (∃ T, mg_open_115 R nd j k t1 = mg_open_193 R nd (nd + 1) 0 (-1) 0 T ∧ (gg_4_levelSupers_2 R nd j k g1).1 1 = 1 ∧ BI R nd b (gg_4_levelSupers_2 R nd j k g1) T ∧ ((gg_4_levelSupers_2 R nd j k g1).1 3 = T.1 7 ∧ T.1 5 = U) ∧ T.1 0 = 0 ∧ (∀ d, d < nd → T.2.1 0 d = 0 → SUP T d = HLD T) ∧ KV t1 T) ∨
    ((mg_open_115 R nd j k t1).1 = 0 ∧ (gg_4_levelSupers_2 R nd j k g1).1 1 = 0 ∧ BI R nd b (gg_4_levelSupers_2 R nd j k g1) (mg_open_115 R nd j k t1).2 ∧ ((mg_open_115 R nd j k t1).2.1 5 = 0 ∧ (mg_open_115 R nd j k t1).2.1 7 = 0) ∧ (mg_open_115 R nd j k t1).2.1 0 = 0 ∧ KV t1 (mg_open_115 R nd j k t1).2) := by
  intro j
  induction j with
  | zero => intro k g1 t1 h1 h2; omega
  | succ j ih =>
    intro k g1 t1 h1 h2 hB hu h3 h0 li si9 hd0
    rw [gg_4_levelSupers_2, mg_open_115]
    by_cases c : nI nd ≤ nI k
    · have hk : nd ≤ k := ndle c (by omega)
      rw [if_pos c, if_pos c]
      exact Or.inl ⟨t1, rfl, hu, hB, h3, h0, fun d hd q => hd0 d (by omega) hd q, KV.rf⟩
    · have hk : k < nd := nd_lt c (by omega)
      rw [if_neg c, if_neg c]
      have dk := hB.1.2.1 k hk
      have lv := live_k (R := R) hk hnd dk (hB.1.2.2.1 k hk (by omega))
      have es : (g1.2.1 0 k = g1.1 8) ↔ (t1.2.1 2 k = t1.1 1) := by rw [dk.1, hB.1.1.2.2.2.2.2.1]
      have skip : (t1.2.1 0 k = 0 → SUP t1 k = HLD t1) → _ := fun hs => ih (k + 1) g1 t1 (by omega) (by omega) hB hu h3 h0 li si9 (fun d hd hn q => by
        rcases Nat.lt_or_ge d k with z | z
        · exact hd0 d z hn q
        · have e : d = k := by omega
          rw [e] at q ⊢; exact hs q)
      by_cases c0 : t1.2.1 0 k = 0
      · rw [if_pos c0]
        by_cases c1 : t1.2.1 2 k = t1.1 1
        · rw [if_pos c1, if_pos (es.mpr c1), ite_self]
          refine skip (fun _ => ?_)
          rw [← si9]
          refine hB.2.2.2.1 k i hk hi c0 li (c1.trans ?_)
          exact (congrArg Prod.fst si9).symm
        · rw [if_neg c1, if_neg (fun q => c1 (es.mp q)), if_neg (fun q => (lv.mp q) c0)]
          by_cases cp : t1.1 6 = 0
          · obtain ⟨m1, m2, m3, m4, m5⟩ := MM_no (R := R) hnd hB.1 hu cp
            obtain ⟨l1, l2, l3, l4, l5⟩ := lasts_no (R := R) hnd cp
            rw [pokes_no hnd cp, if_pos m2, if_pos rfl, dn_lev_l _ _ _ m4]
            refine Or.inr ⟨rfl, m4, (BI_mid hB m1 (by rw [spend_arr]) (fun d => ?_) ?_ (fun d => ⟨by rw [l3 6 (by decide)], by rw [l3 7 (by decide)], by rw [l3 8 (by decide)], by rw [spend_arr], by rw [spend_arr], by rw [spend_arr]⟩) (fun q d _ => by rw [spend_arr])).1, m5, ?_, kv_lasts⟩
            · unfold SUP
              rw [l3 2 (by decide), l3 3 (by decide), l3 4 (by decide), l3 5 (by decide)]
            · unfold HLD
              rw [l2]
              rfl
            · rw [l2]; exact h0
          · have hp : 0 < t1.1 1 := Geo9.pos (s := HLD t1) (by omega) hB.2.1
            have hc : (nI k).toNatClampNeg = k := nI_clamp (by omega)
            have e3 : (gf_4_spendWrite R nd g1).1 = 1 := by rw [spend_ok hu (by rw [hB.1.1.1]; exact cp)]
            have sk := fun z h1 h2 h5 h7 => spend_keep (R := R) (nd := nd) (g := g1) z h1 h2 h5 h7
            have eT : gf_1_takeSuper__d_h R nd (gf_4_spendWrite R nd g1).2 k = gf_1_takeSuper_d R nd (gf_4_spendWrite R nd g1).2 k (t1.1 1) (t1.1 2) (t1.1 3) (t1.1 4) := by
              rw [← hB.1.1.2.2.2.2.2.1, ← hB.1.1.2.2.2.2.2.2.1, ← hB.1.1.2.2.2.2.2.2.2.1, ← hB.1.1.2.2.2.2.2.2.2.2, ← sk 8 (by decide) (by decide) (by decide) (by decide), ← sk 9 (by decide) (by decide) (by decide) (by decide), ← sk 10 (by decide) (by decide) (by decide) (by decide), ← sk 11 (by decide) (by decide) (by decide) (by decide)]
              rfl
            have hm := MM_set (R := R) (n0 := t1.1 2) (m0 := t1.1 3) (f := t1.1 4) (al := nd) hk hnd hp (Or.inr c0) hB.1 hu cp
            rw [e3, if_neg (show ¬ (1 : Int32) = 0 by decide), eT]
            have gfT : GF nd aSu g1 (gf_1_takeSuper_d R nd (gf_4_spendWrite R nd g1).2 k (t1.1 1) (t1.1 2) (t1.1 3) (t1.1 4)) := GF_spend.tr (GF_ts hk)
            have gu : (gf_1_takeSuper_d R nd (gf_4_spendWrite R nd g1).2 k (t1.1 1) (t1.1 2) (t1.1 3) (t1.1 4)).1 1 = 1 := by
              rw [(takeSuper_eq).1, spend_ok hu (by rw [hB.1.1.1]; exact cp)]
              exact hu
            have g3 : (gf_1_takeSuper_d R nd (gf_4_spendWrite R nd g1).2 k (t1.1 1) (t1.1 2) (t1.1 3) (t1.1 4)).1 3 = g1.1 3 := by
              rw [(takeSuper_eq).1]
              exact sk 3 (by decide) (by decide) (by decide) (by decide)
            generalize gf_1_takeSuper_d R nd (gf_4_spendWrite R nd g1).2 k (t1.1 1) (t1.1 2) (t1.1 3) (t1.1 4) = G at hm gfT gu g3
            rw [pokes_ok (by omega) cp, if_neg (show ¬ (1 : Int32) = 0 by decide)]
            rw [pokes_ok (by omega) cp] at hm
            have hS : ∀ d, SUP (mf_tells R nd (si (ti (si t1 6 (dec9 (t1.1 6))) 1 k (t1.2.1 1 k + 1)) 9 (t1.1 9 + 1)) (nI k) (t1.1 1) (t1.1 2) (t1.1 3) (t1.1 4)) d = if d = k then HLD t1 else SUP t1 d := by
              intro d
              unfold SUP mf_tells HLD
              rw [hc]
              by_cases e : d = k
              · subst e; simp [ti, si, va_up]
              · simp [ti, si, va_up, e]
            have t678 : ∀ q, 6 ≤ q → (mf_tells R nd (si (ti (si t1 6 (dec9 (t1.1 6))) 1 k (t1.2.1 1 k + 1)) 9 (t1.1 9 + 1)) (nI k) (t1.1 1) (t1.1 2) (t1.1 3) (t1.1 4)).2.1 q = t1.2.1 q := fun q hq => by
              simp [mf_tells, ti, si, va_up, show ¬ q = 5 by omega, show ¬ q = 4 by omega, show ¬ q = 3 by omega, show ¬ q = 2 by omega, show ¬ q = 1 by omega]
            obtain ⟨y1, y2⟩ := BI_lev hB hi li si9 hk c0 hm (gfT.1 10 (by decide)) hS hp rfl (fun d => ⟨by rw [t678 6 (by decide)], by rw [t678 7 (by decide)], by rw [t678 8 (by decide)], by rw [gfT.1 6 (by decide)], by rw [gfT.1 7 (by decide)], by rw [gfT.1 8 (by decide)]⟩) gfT.2
            have kvp : KV t1 (mf_tells R nd (si (ti (si t1 6 (dec9 (t1.1 6))) 1 k (t1.2.1 1 k + 1)) 9 (t1.1 9 + 1)) (nI k) (t1.1 1) (t1.1 2) (t1.1 3) (t1.1 4)) := (((kv_si (by decide)).tr (kv_ti (by decide))).tr (kv_si (by decide))).tr kv_tells
            refine Or.imp (fun ⟨T, q1, q2, q3, q4, q5, q6, q7⟩ => ⟨T, q1, q2, q3, q4, q5, q6, kvp.tr q7⟩) (fun ⟨q1, q2, q3, q4, q5, q6⟩ => ⟨q1, q2, q3, q4, q5, kvp.tr q6⟩) (ih (k + 1) G _ (by omega) (by omega) y1 gu ⟨g3.trans h3.1, h3.2⟩ h0 ((y2 i hi).mpr li) ?_ (fun d hd hn q => ?_))
            · refine (hS i).trans ?_
              by_cases e : i = k
              · rw [if_pos e]; rfl
              · rw [if_neg e]; exact si9
            · refine (hS d).trans ?_
              by_cases e : d = k
              · rw [if_pos e]; rfl
              · rw [if_neg e]
                exact hd0 d (by omega) hn ((y2 d hn).mp q)
      · rw [if_neg c0]
        by_cases c1 : g1.2.1 0 k = g1.1 8
        · rw [if_pos c1, ite_self]
          exact skip (fun q => absurd q c0)
        · rw [if_neg c1, if_pos (lv.mpr c0)]
          exact skip (fun q => absurd q c0)
theorem rep2 (hnd : nd ≤ 10) (hm : MM nd nd g t) : ∀ (j k : Nat) (la jn hbk : Int32) (g1 : GS), k ≤ nd → nd < k + j → RS2 nd k g t jn la g1 → HB nd k t hbk →
    ∃ jn' hbk' la' G1, mg_open_193 R nd j k jn hbk t = oJ R nd jn' hbk' t ∧ gg_4_replayJournal_4 R nd j k la g1 = (if la' = 0 then (0, G1) else (1, gf_4_carryOutOrder R nd G1)) ∧ RS2 nd nd g t jn' la' G1 ∧ HB nd nd t hbk' := by
  intro j
  induction j with
  | zero => intro k la jn hbk g1 h1 h2; omega
  | succ j ih =>
    intro k la jn hbk g1 h1 h2 hst hhb
    by_cases c : nI nd ≤ nI k
    · have hk : nd ≤ k := ndle c (by omega)
      refine ⟨jn, hbk, la, g1, o193 c, ?_, hst.to hk, ?_⟩
      · rw [gg_4_replayJournal_4, if_pos c]
      · exact hhb.imp (fun q => ⟨q.1, fun d h3 h4 h5 => q.2 d (by omega) h4 h5⟩) id
    · have hk : k < nd := nd_lt c (by omega)
      have dk := hm.2.1 k hk
      have e21 : g1.2.1 = g.2.1 := by
        rcases hst with ⟨-, -, q, -⟩ | ⟨i, -, -, -, -, -, -, q, -⟩
        · rw [q]
        · exact q
      have e8 : g1.1 8 = g.1 8 := by
        rcases hst with ⟨-, -, q, -⟩ | ⟨i, -, -, -, -, -, -, -, q, -⟩
        · rw [q]
        · exact q 8 (by decide)
      have lv : gf_4_isLive R nd g1 (nI k) = 0 ↔ ¬ t.2.1 0 k = 0 := by
        have l0 := live_k (R := R) hk hnd dk (hm.2.2.1 k hk (by omega))
        have : gf_4_isLive R nd g1 (nI k) = gf_4_isLive R nd g (nI k) := by
          unfold gf_4_isLive gf_4_isThere gf_1_isLive_d
          rw [e21]
        rw [this]
        exact l0
      have la0 : 0 ≤ la := by
        rcases hst with ⟨-, q, -⟩ | ⟨i, -, -, -, q, q2, -⟩
        · rw [q]; exact Int32.le_refl _
        · rw [q]; exact Int32.le_of_lt q2
      have la0' : la = 0 ↔ jn = -1 := by
        rcases hst with ⟨q1, q, -, -⟩ | ⟨i, hi, q1, -, q, q2, -⟩
        · exact ⟨fun _ => q1, fun _ => q⟩
        · exact ⟨fun z => absurd (q.symm.trans z) (pos0 q2), fun z => absurd (q1.symm.trans z) (nI_m1 (by omega))⟩
      rw [gg_4_replayJournal_4, if_neg c]
      by_cases c0 : t.2.1 0 k = 0
      · rw [if_neg (fun q => (lv.mp q) c0), e21, e8, dk.2.2.2.2.1]
        -- the reference's branches, by what it notes of backups
        have ref : ∃ hbk2, HB nd (k + 1) t hbk2 ∧ mg_open_193 R nd (j + 1) k jn hbk t = if t.2.1 6 k ≤ 0 then mg_open_193 R nd j (k + 1) jn hbk2 t else if t.2.1 7 k = t.1 1 then (if jn = -1 then mg_open_193 R nd j (k + 1) (nI k) hbk2 t else if t.2.1 6 k ≤ t.2.1 6 jn.toNatClampNeg then mg_open_193 R nd j (k + 1) jn hbk2 t else mg_open_193 R nd j (k + 1) (nI k) hbk2 t) else mg_open_193 R nd j (k + 1) jn hbk2 t := by
          rcases hhb with ⟨q1, q2⟩ | ⟨q1, q2⟩
          · by_cases cb : t.2.1 9 k = t.1 1
            · refine ⟨1, Or.inr ⟨rfl, k, hk, c0, cb⟩, ?_⟩
              rw [mg_open_193, if_neg c, if_pos c0, if_pos q1, if_pos cb]
            · refine ⟨0, HB.skip (show HB nd k t 0 from Or.inl ⟨rfl, q2⟩) (fun _ => cb), ?_⟩
              rw [mg_open_193, if_neg c, if_pos c0, if_pos q1, if_neg cb]
          · refine ⟨1, Or.inr ⟨rfl, q2⟩, ?_⟩
            rw [mg_open_193, if_neg c, if_pos c0, if_neg (by rw [q1]; decide)]
        obtain ⟨hbk2, hb2, ref⟩ := ref
        rw [ref]
        have take : ¬ t.2.1 6 k ≤ 0 → t.2.1 7 k = t.1 1 → RS2 nd (k + 1) g t (nI k) (t.2.1 6 k) (gf_2_copyFrom_r_j R nd g1 k) := by
          intro h3 h4
          have e22 : ∀ z, ¬ z = 0 → g1.2.2 z = g.2.2 z := by
            rcases hst with ⟨-, -, q, -⟩ | ⟨i, -, -, -, -, -, -, -, -, -, -, -, -, -, -, -, q⟩
            · rw [q]; exact fun _ _ => rfl
            · exact q
          refine Or.inr ⟨k, hk, rfl, c0, rfl, Int32.not_le.mp h3, h4, ?_, fun z hz => ?_, ?_, ?_, ?_, ?_, ?_, ?_, ?_, fun z hz => ?_⟩
          · rw [← e21]; rfl
          · have : g1.1 z = g.1 z := by
              rcases hst with ⟨-, -, q, -⟩ | ⟨i, -, -, -, -, -, -, -, q, -⟩
              · rw [q]
              · exact q z hz
            rw [← this]
            simp [gf_2_copyFrom_r_j, gf_2_tell_r, gli, gsi, va_up, show ¬ z = 12 by omega, show ¬ z = 13 by omega, show ¬ z = 14 by omega, show ¬ z = 15 by omega, show ¬ z = 16 by omega]
          · rw [← e21]; rfl
          · rw [← e21]; rfl
          · rw [← e21]; rfl
          · rw [← e21]; rfl
          · rw [← e21]; rfl
          · rw [← e22 2 (by decide)]; simp [gf_2_copyFrom_r_j, gf_2_tell_r, gli, gsi, va_up]
          · rw [← e22 2 (by decide)]; simp [gf_2_copyFrom_r_j, gf_2_tell_r, gli, gsi, va_up]
          · rw [← e22 z hz]; simp [gf_2_copyFrom_r_j, gf_2_tell_r, gli, gsi, va_up, hz]
        by_cases c6 : t.2.1 6 k ≤ 0
        · rw [if_pos c6, if_pos (Int32.le_trans c6 la0), ite_self]
          exact ih (k + 1) la jn hbk2 g1 (by omega) (by omega) (hst.skip (fun _ z => absurd z.1 (Int32.not_lt.mpr c6))) hb2
        · rw [if_neg c6]
          have ne6 : ¬ t.2.1 6 k = 0 := fun q => c6 (by rw [q]; exact Int32.le_refl _)
          rw [dk.2.2.2.2.2.1 ne6, hm.1.2.2.2.2.2.1]
          by_cases c7 : t.2.1 7 k = t.1 1
          · rw [if_pos c7, if_pos c7]
            rcases id hst with ⟨q1, q2, q3, -⟩ | ⟨i, hi, q1, q2, q3, q4, q5, q6⟩
            · rw [if_pos q1, q2, if_neg c6]
              exact ih (k + 1) _ _ hbk2 _ (by omega) (by omega) (take c6 c7) hb2
            · rw [if_neg (show ¬ jn = -1 by rw [q1]; exact nI_m1 (by omega)), q3]
              have ej : t.2.1 6 jn.toNatClampNeg = t.2.1 6 i := by rw [q1, nI_clamp (by omega)]
              rw [ej]
              by_cases c9 : t.2.1 6 k ≤ t.2.1 6 i
              · rw [if_pos c9, if_pos c9]
                exact ih (k + 1) _ _ hbk2 _ (by omega) (by omega) (by rw [← q3]; exact Or.inr ⟨i, hi, q1, q2, q3, q4, q5, q6⟩) hb2
              · rw [if_neg c9, if_neg c9]
                exact ih (k + 1) _ _ hbk2 _ (by omega) (by omega) (take c6 c7) hb2
          · rw [if_neg c7, if_neg c7]
            exact ih (k + 1) la jn hbk2 g1 (by omega) (by omega) (hst.skip (fun _ z => absurd z.2 c7)) hb2
      · rw [if_pos (lv.mpr c0), mg_open_193, if_neg c, if_neg c0]
        exact ih (k + 1) la jn hbk g1 (by omega) (by omega) (hst.skip (fun q => absurd q c0)) (hhb.skip (fun q => absurd q c0))
end OE
