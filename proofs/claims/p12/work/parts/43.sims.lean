/-! ===== open: the journal, the rest ===== -/
section SIMS
variable {R nd b : Nat} {g : GS} {t : MS} {U : Int32}
def oS (R nd : Nat) (a0 : Int32) (t : MS) : Int32 × MS := if (mf_sets R nd t (t.1 2) (t.1 3) (t.1 4) (-1)).1 = 0 then (0, (mf_sets R nd t (t.1 2) (t.1 3) (t.1 4) (-1)).2) else (a0, si (mf_sets R nd t (t.1 2) (t.1 3) (t.1 4) (-1)).2 5 1)
def oM (R nd : Nat) (a4 : Int32) (t : MS) : Int32 × MS := if (mf_moves R nd t).1 = 0 then (0, (mf_moves R nd t).2) else (a4, si (mf_moves R nd t).2 5 1)
def oB (R nd : Nat) (a4 : Int32) (t : MS) : Int32 × MS := if (mf_backups R nd t).1 = 0 then (0, (mf_backups R nd t).2) else oM R nd a4 (mf_backups R nd t).2
def oT (R nd : Nat) (a0 a4 : Int32) (t : MS) (hbk : Int32) : Int32 × MS := if mf_isReshaped R nd t = 0 then oS R nd a0 t else if hbk = 0 then (if mf_isCritical R nd t = 0 then oM R nd a4 t else oS R nd a0 t) else oB R nd a4 t
def oJ (R nd : Nat) (jn hbk : Int32) (t : MS) : Int32 × MS := if jn = -1 then oT R nd 1 (1 + 4) t hbk else if (mf_journaled R nd t (t.2.1 6 jn.toNatClampNeg) (t.2.1 8 jn.toNatClampNeg) (t.2.2 0 jn.toNatClampNeg)).1 = 0 then (0, (mf_journaled R nd t (t.2.1 6 jn.toNatClampNeg) (t.2.1 8 jn.toNatClampNeg) (t.2.2 0 jn.toNatClampNeg)).2) else oT R nd (1 + 2) (1 + 2 + 4) (mf_journaled R nd t (t.2.1 6 jn.toNatClampNeg) (t.2.1 8 jn.toNatClampNeg) (t.2.2 0 jn.toNatClampNeg)).2 hbk
theorem o193 {j k : Nat} {jn hbk : Int32} (c : nI nd ≤ nI k) : mg_open_193 R nd (j + 1) k jn hbk t = oJ R nd jn hbk t := by
  rw [mg_open_193, if_pos c]
  unfold oJ oT oB oS oM
  by_cases hb : hbk = 0
  · simp only [if_pos hb]
  · simp only [if_neg hb]
/-- the search of the journal: the reference's number of the disk, the class's count and order -/
def RS (nd : Nat) (g : GS) (t : MS) (jn la : Int32) (g1 : GS) : Prop := (jn = -1 ∧ la = 0 ∧ g1 = g) ∨ ∃ i, i < nd ∧ jn = nI i ∧ t.2.1 0 i = 0 ∧ la = t.2.1 6 i ∧ 0 < t.2.1 6 i ∧ t.2.1 7 i = t.1 1 ∧ g1.2.1 = g.2.1 ∧ (∀ z, z < 12 → g1.1 z = g.1 z) ∧ g1.1 12 = g.2.1 4 i ∧ g1.1 13 = g.2.1 5 i ∧ g1.1 14 = g.2.1 6 i ∧ g1.1 15 = g.2.1 7 i ∧ g1.1 16 = g.2.1 8 i
def HB (nd k : Nat) (t : MS) (hbk : Int32) : Prop := (hbk = 0 ∧ ∀ d, d < k → d < nd → t.2.1 0 d = 0 → ¬ t.2.1 9 d = t.1 1) ∨ (hbk = 1 ∧ ∃ d, d < nd ∧ t.2.1 0 d = 0 ∧ t.2.1 9 d = t.1 1)
theorem HB.skip {k : Nat} {hbk : Int32} (h : HB nd k t hbk) (hk : t.2.1 0 k = 0 → ¬ t.2.1 9 k = t.1 1) : HB nd (k + 1) t hbk := by
  refine h.imp (fun q => ⟨q.1, fun d h1 h2 h3 => ?_⟩) id
  rcases Nat.lt_or_ge d k with z | z
  · exact q.2 d z h2 h3
  · have e : d = k := by omega
    rw [e] at h3 ⊢; exact hk h3
theorem rep_l (hnd : nd ≤ 10) (hm : MM nd nd g t) : ∀ (j k : Nat) (la jn hbk : Int32) (g1 : GS), k ≤ nd → nd < k + j → RS nd g t jn la g1 → HB nd k t hbk →
    ∃ jn' hbk' la' G1, mg_open_193 R nd j k jn hbk t = oJ R nd jn' hbk' t ∧ gg_4_replayJournal_4 R nd j k la g1 = (if la' = 0 then (0, G1) else (1, gf_4_carryOutOrder R nd G1)) ∧ RS nd g t jn' la' G1 ∧ HB nd nd t hbk' := by
  intro j
  induction j with
  | zero => intro k la jn hbk g1 h1 h2; omega
  | succ j ih =>
    intro k la jn hbk g1 h1 h2 hst hhb
    by_cases c : nI nd ≤ nI k
    · have hk : nd ≤ k := ndle c (by omega)
      refine ⟨jn, hbk, la, g1, o193 c, ?_, hst, ?_⟩
      · rw [gg_4_replayJournal_4, if_pos c]
      · exact hhb.imp (fun q => ⟨q.1, fun d h3 h4 h5 => q.2 d (by omega) h4 h5⟩) id
    · have hk : k < nd := nd_lt c (by omega)
      have dk := hm.2.1 k hk
      have e21 : g1.2.1 = g.2.1 := by
        rcases hst with ⟨-, -, q⟩ | ⟨i, -, -, -, -, -, -, q, -⟩
        · rw [q]
        · exact q
      have e8 : g1.1 8 = g.1 8 := by
        rcases hst with ⟨-, -, q⟩ | ⟨i, -, -, -, -, -, -, -, q, -⟩
        · rw [q]
        · exact q 8 (by decide)
      have lv : gf_4_isLive R nd g1 (nI k) = 0 ↔ ¬ t.2.1 0 k = 0 := by
        have l0 := live_k (R := R) hk hnd dk (hm.2.2.1 k hk (by omega))
        have : gf_4_isLive R nd g1 (nI k) = gf_4_isLive R nd g (nI k) := by
          unfold gf_4_isLive gf_4_isThere gf_1_isLive_d
          rw [e21]
        rw [this]
        exact l0
      have la0 : 0 ≤ la := by
        rcases hst with ⟨-, q, -⟩ | ⟨i, -, -, -, q, q2, -⟩
        · rw [q]; exact Int32.le_refl _
        · rw [q]; exact Int32.le_of_lt q2
      have la0' : la = 0 ↔ jn = -1 := by
        rcases hst with ⟨q1, q, -⟩ | ⟨i, hi, q1, -, q, q2, -⟩
        · exact ⟨fun _ => q1, fun _ => q⟩
        · exact ⟨fun z => absurd (q.symm.trans z) (pos0 q2), fun z => absurd (q1.symm.trans z) (nI_m1 (by omega))⟩
      rw [gg_4_replayJournal_4, if_neg c]
      by_cases c0 : t.2.1 0 k = 0
      · rw [if_neg (fun q => (lv.mp q) c0), e21, e8, dk.2.2.2.2.1]
        -- the reference's branches, by what it notes of backups
        have ref : ∃ hbk2, HB nd (k + 1) t hbk2 ∧ mg_open_193 R nd (j + 1) k jn hbk t = if t.2.1 6 k ≤ 0 then mg_open_193 R nd j (k + 1) jn hbk2 t else if t.2.1 7 k = t.1 1 then (if jn = -1 then mg_open_193 R nd j (k + 1) (nI k) hbk2 t else if t.2.1 6 k ≤ t.2.1 6 jn.toNatClampNeg then mg_open_193 R nd j (k + 1) jn hbk2 t else mg_open_193 R nd j (k + 1) (nI k) hbk2 t) else mg_open_193 R nd j (k + 1) jn hbk2 t := by
          rcases hhb with ⟨q1, q2⟩ | ⟨q1, q2⟩
          · by_cases cb : t.2.1 9 k = t.1 1
            · refine ⟨1, Or.inr ⟨rfl, k, hk, c0, cb⟩, ?_⟩
              rw [mg_open_193, if_neg c, if_pos c0, if_pos q1, if_pos cb]
            · refine ⟨0, HB.skip (show HB nd k t 0 from Or.inl ⟨rfl, q2⟩) (fun _ => cb), ?_⟩
              rw [mg_open_193, if_neg c, if_pos c0, if_pos q1, if_neg cb]
          · refine ⟨1, Or.inr ⟨rfl, q2⟩, ?_⟩
            rw [mg_open_193, if_neg c, if_pos c0, if_neg (by rw [q1]; decide)]
        obtain ⟨hbk2, hb2, ref⟩ := ref
        rw [ref]
        have take : ¬ t.2.1 6 k ≤ 0 → t.2.1 7 k = t.1 1 → RS nd g t (nI k) (t.2.1 6 k) (gf_2_copyFrom_r_j R nd g1 k) := by
          intro h3 h4
          refine Or.inr ⟨k, hk, rfl, c0, rfl, Int32.not_le.mp h3, h4, ?_, fun z hz => ?_, ?_, ?_, ?_, ?_, ?_⟩
          · rw [← e21]; rfl
          · have : g1.1 z = g.1 z := by
              rcases hst with ⟨-, -, q⟩ | ⟨i, -, -, -, -, -, -, -, q, -⟩
              · rw [q]
              · exact q z hz
            rw [← this]
            simp [gf_2_copyFrom_r_j, gf_2_tell_r, gli, gsi, va_up, show ¬ z = 12 by omega, show ¬ z = 13 by omega, show ¬ z = 14 by omega, show ¬ z = 15 by omega, show ¬ z = 16 by omega]
          · rw [← e21]; rfl
          · rw [← e21]; rfl
          · rw [← e21]; rfl
          · rw [← e21]; rfl
          · rw [← e21]; rfl
        by_cases c6 : t.2.1 6 k ≤ 0
        · rw [if_pos c6, if_pos (Int32.le_trans c6 la0), ite_self]
          exact ih (k + 1) la jn hbk2 g1 (by omega) (by omega) hst hb2
        · rw [if_neg c6]
          have ne6 : ¬ t.2.1 6 k = 0 := fun q => c6 (by rw [q]; exact Int32.le_refl _)
          rw [dk.2.2.2.2.2.1 ne6, hm.1.2.2.2.2.2.1]
          by_cases c7 : t.2.1 7 k = t.1 1
          · rw [if_pos c7, if_pos c7]
            rcases id hst with ⟨q1, q2, q3⟩ | ⟨i, hi, q1, q2, q3, q4, q5, q6⟩
            · rw [if_pos q1, q2, if_neg c6]
              exact ih (k + 1) _ _ hbk2 _ (by omega) (by omega) (take c6 c7) hb2
            · rw [if_neg (show ¬ jn = -1 by rw [q1]; exact nI_m1 (by omega)), q3]
              have ej : t.2.1 6 jn.toNatClampNeg = t.2.1 6 i := by rw [q1, nI_clamp (by omega)]
              rw [ej]
              by_cases c9 : t.2.1 6 k ≤ t.2.1 6 i
              · rw [if_pos c9, if_pos c9]
                exact ih (k + 1) _ _ hbk2 _ (by omega) (by omega) (by rw [← q3]; exact hst) hb2
              · rw [if_neg c9, if_neg c9]
                exact ih (k + 1) _ _ hbk2 _ (by omega) (by omega) (take c6 c7) hb2
          · rw [if_neg c7, if_neg c7]
            exact ih (k + 1) la jn hbk2 g1 (by omega) (by omega) hst hb2
      · rw [if_pos (lv.mpr c0), mg_open_193, if_neg c, if_neg c0]
        exact ih (k + 1) la jn hbk g1 (by omega) (by omega) hst (hhb.skip (fun q => absurd q c0))
/-! the backup -/
theorem copyTo_l {d : Nat} : ∀ (j k : Nat) (g1 : GS), (gg_0_copyTo_b_v_2 R nd d j k g1).1 = g1.1 ∧ (gg_0_copyTo_b_v_2 R nd d j k g1).2.1 = g1.2.1 := by
  intro j
  induction j with
  | zero => intro k g1; exact ⟨rfl, rfl⟩
  | succ j ih =>
    intro k g1
    rw [gg_0_copyTo_b_v_2]
    repeat' split
    all_goals first | exact ⟨rfl, rfl⟩ | exact ih _ _
theorem rec_l (hnd : nd ≤ 10) (hm : MM nd nd g t) : ∀ (j k : Nat), k ≤ nd → nd < k + j → (gg_4_recallBackup_2 R nd j k g).2.1 = g.1 ∧ (gg_4_recallBackup_2 R nd j k g).2.2.1 = g.2.1 ∧ (((gg_4_recallBackup_2 R nd j k g).1 = 0 ∧ ∀ d, k ≤ d → d < nd → t.2.1 0 d = 0 → ¬ t.2.1 9 d = t.1 1) ∨ ((gg_4_recallBackup_2 R nd j k g).1 = 1 ∧ ∃ d, d < nd ∧ t.2.1 0 d = 0 ∧ t.2.1 9 d = t.1 1)) := by
  intro j
  induction j with
  | zero => intro k h1 h2; omega
  | succ j ih =>
    intro k h1 h2
    rw [gg_4_recallBackup_2]
    by_cases c : nI nd ≤ nI k
    · have hk : nd ≤ k := ndle c (by omega)
      rw [if_pos c]
      exact ⟨rfl, rfl, Or.inl ⟨rfl, fun d h3 h4 => by omega⟩⟩
    · have hk : k < nd := nd_lt c (by omega)
      have dk := hm.2.1 k hk
      have lv := live_k (R := R) hk hnd dk (hm.2.2.1 k hk (by omega))
      rw [if_neg c]
      have step : (t.2.1 0 k = 0 → ¬ t.2.1 9 k = t.1 1) → _ := fun hz => by
        obtain ⟨a1, a2, a3⟩ := ih (k + 1) (by omega) (by omega)
        exact (⟨a1, a2, a3.imp (fun q => ⟨q.1, fun d h3 h4 h5 => by
          rcases Nat.lt_or_ge k d with z | z
          · exact q.2 d z h4 h5
          · have e : d = k := by omega
            rw [e] at h5 ⊢; exact hz h5⟩) id⟩ : (gg_4_recallBackup_2 R nd j (k + 1) g).2.1 = g.1 ∧ (gg_4_recallBackup_2 R nd j (k + 1) g).2.2.1 = g.2.1 ∧ (((gg_4_recallBackup_2 R nd j (k + 1) g).1 = 0 ∧ ∀ d, k ≤ d → d < nd → t.2.1 0 d = 0 → ¬ t.2.1 9 d = t.1 1) ∨ ((gg_4_recallBackup_2 R nd j (k + 1) g).1 = 1 ∧ ∃ d, d < nd ∧ t.2.1 0 d = 0 ∧ t.2.1 9 d = t.1 1)))
      by_cases c0 : t.2.1 0 k = 0
      · rw [if_neg (fun q => (lv.mp q) c0), dk.2.2.2.2.2.2.1, hm.1.2.2.2.2.2.1]
        by_cases cb : t.2.1 9 k = t.1 1
        · rw [if_pos cb]
          obtain ⟨a1, a2⟩ := copyTo_l (R := R) (nd := nd) (d := k) 11 0 g
          exact ⟨a1, a2, Or.inr ⟨rfl, k, hk, c0, cb⟩⟩
        · rw [if_neg cb]
          exact step (fun _ => cb)
      · rw [if_pos (lv.mpr c0)]
        exact step (fun q => absurd q c0)
end SIMS
