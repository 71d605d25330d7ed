/-! ===== the relation under a set of supers, the backups, a journal and its blocks, a row moved ===== -/
section SIMD
variable {R nd : Nat} {g : GS} {t : MS} {U : Int32}
theorem MM_ext {al : Nat} {g' : GS} (h1 : g'.1 = g.1) (h2 : g'.2.1 = g.2.1) (h : MM al nd g t) : MM al nd g' t := by
  unfold MM sE dE stE at *
  rw [h1, h2]
  exact h
theorem MM_mt {al : Nat} {t' : MS} (h1 : ∀ i, ¬ i = 0 → ¬ i = 5 → ¬ i = 7 → t'.1 i = t.1 i) (h2 : t'.2.1 = t.2.1) (h : MM al nd g t) : MM al nd g t' := by
  unfold MM sE dE stE at *
  rw [h2, h1 1 (by decide) (by decide) (by decide), h1 2 (by decide) (by decide) (by decide), h1 3 (by decide) (by decide) (by decide), h1 4 (by decide) (by decide) (by decide), h1 6 (by decide) (by decide) (by decide), h1 8 (by decide) (by decide) (by decide), h1 9 (by decide) (by decide) (by decide), h1 10 (by decide) (by decide) (by decide), h1 11 (by decide) (by decide) (by decide)]
  exact h
theorem takeSuper_eq {k : Nat} {sq n0 m0 f : Int32} : (gf_1_takeSuper_d R nd g k sq n0 m0 f).1 = (gdi (gdi (gdi (gdi (gdi g 11 k (g.2.1 11 k + 1)) 0 k sq) 1 k n0) 2 k m0) 3 k f).1 ∧ (gf_1_takeSuper_d R nd g k sq n0 m0 f).2.1 = (gdi (gdi (gdi (gdi (gdi g 11 k (g.2.1 11 k + 1)) 0 k sq) 1 k n0) 2 k m0) 3 k f).2.1 := by
  refine ⟨rfl, ?_⟩
  funext q d
  unfold gf_1_takeSuper_d gf_3_tell_s
  simp only [gdi, va_up]
  by_cases e0 : q = 11
  · subst e0; simp
  · by_cases e1 : q = 3
    · subst e1; simp
    · by_cases e2 : q = 2
      · subst e2; simp
      · by_cases e3 : q = 1
        · subst e3; simp
        · by_cases e4 : q = 0
          · subst e4; simp
          · simp [e0, e1, e2, e3, e4]
theorem MM_set {al k : Nat} {sq n0 m0 f : Int32} (hk : k < nd) (hnd : nd ≤ 10) (hsq : 0 < sq) (hv : k = al ∨ t.2.1 0 k = 0) (h : MM al nd g t) (hu : g.1 1 = 1) (c : ¬ t.1 6 = 0) : MM al nd (gf_1_takeSuper_d R nd (gf_4_spendWrite R nd g).2 k sq n0 m0 f) (mf_tells R nd (mf_pokes R nd t (nI k)).2 (nI k) sq n0 m0 f) := by
  rw [pokes_ok (by omega) c, spend_ok hu (by rw [h.1.1]; exact c), h.1.1]
  obtain ⟨e1, e2⟩ := takeSuper_eq (R := R) (nd := nd) (g := gsi (gsi g 2 (dec9 (t.1 6))) 5 (g.1 5 + 1)) (k := k) (sq := sq) (n0 := n0) (m0 := m0) (f := f)
  exact MM_ext e1 e2 (MM_super (g := gdi (gsi (gsi g 2 (dec9 (t.1 6))) 5 (g.1 5 + 1)) 11 k (g.2.1 11 k + 1)) hk hnd hsq hv (MM_tick hk h))
theorem sim_sets_l {al : Nat} {n0 m0 f jo : Int32} (hnd : nd ≤ 10) (hjo : ∀ k, k < nd → (nI k = jo ↔ k = al)) : ∀ (j k : Nat) (sq : Int32) (g1 : GS) (t1 : MS), k ≤ nd → nd < k + j → MM al nd g1 t1 → g1.1 1 = 1 → (g1.1 3 = t1.1 7 ∧ t1.1 5 = U) → sq = t1.1 1 + 1 → 0 < sq →
    OC al nd U (gg_4_setSuper_14 R nd n0 m0 f jo j k sq g1) (mg_sets_3 R nd n0 m0 f jo j k t1).1 (mg_sets_3 R nd n0 m0 f jo j k t1).2 := by
  intro j
  induction j with
  | zero => intro k sq g1 t1 h1 h2; omega
  | succ j ih =>
    intro k sq g1 t1 h1 h2 h hu h3 hsq hs0
    rw [gg_4_setSuper_14, mg_sets_3]
    by_cases c : nI nd ≤ nI k
    · rw [if_pos c, if_pos c, if_neg (by rw [hu]; decide)]
      refine Or.inl ⟨rfl, hu, ?_, h3⟩
      obtain ⟨⟨s1, s2, s3, s4, s5, s6, s7, s8, s9⟩, r⟩ := h
      refine ⟨?_, r⟩
      unfold sE gf_3_tell_h
      simp [gsi, si, va_up, s1, s2, s3, s4, s5, hsq]
    · have hk : k < nd := nd_lt c (by omega)
      rw [if_neg c, if_neg c]
      -- a super that is due
      have due : (k = al ∨ t1.2.1 0 k = 0) → OC al nd U (if (gf_4_spendWrite R nd g1).1 = 0 then gg_4_setSuper_14 R nd n0 m0 f jo j (k + 1) sq (gf_4_spendWrite R nd g1).2 else gg_4_setSuper_14 R nd n0 m0 f jo j (k + 1) sq (gf_1_takeSuper_d R nd (gf_4_spendWrite R nd g1).2 k sq n0 m0 f)) (if (mf_pokes R nd t1 (nI k)).1 = 0 then (0, (mf_pokes R nd t1 (nI k)).2) else mg_sets_3 R nd n0 m0 f jo j (k + 1) (mf_tells R nd (mf_pokes R nd t1 (nI k)).2 (nI k) ((mf_pokes R nd t1 (nI k)).2.1 1 + 1) n0 m0 f)).1 (if (mf_pokes R nd t1 (nI k)).1 = 0 then (0, (mf_pokes R nd t1 (nI k)).2) else mg_sets_3 R nd n0 m0 f jo j (k + 1) (mf_tells R nd (mf_pokes R nd t1 (nI k)).2 (nI k) ((mf_pokes R nd t1 (nI k)).2.1 1 + 1) n0 m0 f)).2 := by
        intro hv
        by_cases cp : t1.1 6 = 0
        · obtain ⟨m1, m2, m3, m4, m5⟩ := MM_no (R := R) hnd h hu cp
          rw [pokes_no hnd cp, if_pos m2, if_pos rfl, dn_set_l _ _ _ _ m4]
          exact Or.inr ⟨rfl, m4, m5, m1⟩
        · have e1 : (mf_pokes R nd t1 (nI k)).1 = 1 := by rw [pokes_ok (by omega) cp]
          have e2 : (mf_pokes R nd t1 (nI k)).2.1 1 + 1 = sq := by rw [pokes_ok (by omega) cp, hsq]; rfl
          have e3 : (gf_4_spendWrite R nd g1).1 = 1 := by rw [spend_ok hu (by rw [h.1.1]; exact cp)]
          have hm := MM_set (R := R) (n0 := n0) (m0 := m0) (f := f) hk hnd hs0 hv h hu cp
          rw [e1, e3, if_neg (show ¬ (1 : Int32) = 0 by decide), if_neg (show ¬ (1 : Int32) = 0 by decide), e2]
          refine ih (k + 1) sq _ _ (by omega) (by omega) hm ?_ ?_ ?_ hs0
          · rw [(takeSuper_eq).1, spend_ok hu (by rw [h.1.1]; exact cp)]
            exact hu
          · rw [(takeSuper_eq).1, spend_ok hu (by rw [h.1.1]; exact cp), pokes_ok (by omega) cp]
            exact h3
          · rw [pokes_ok (by omega) cp, hsq]
            rfl
      by_cases e : k = al
      · have ejo := (hjo k hk).mpr e
        have d9 := due (Or.inl e)
        rw [if_pos ejo, if_pos ejo, ite_self, ite_self]
        exact d9
      · have lv := live_k (R := R) hk hnd (h.2.1 k hk) (h.2.2.1 k hk e)
        have ejo : ¬ nI k = jo := fun q => e ((hjo k hk).mp q)
        by_cases c0 : t1.2.1 0 k = 0
        · rw [if_pos c0, if_neg (fun q => (lv.mp q) c0)]
          exact due (Or.inr c0)
        · rw [if_neg c0, if_pos (lv.mpr c0), if_neg ejo, if_neg ejo]
          exact ih (k + 1) sq g1 t1 (by omega) (by omega) h hu h3 hsq hs0
theorem jo_m1 {nd : Nat} (hnd : nd ≤ 10) : ∀ k, k < nd → (nI k = (-1 : Int32) ↔ k = nd) := fun k hk => ⟨fun q => absurd q (nI_m1 (by omega)), fun q => by omega⟩
theorem jo_al {nd al : Nat} (hnd : nd ≤ 10) (ha : al < nd) : ∀ k, k < nd → (nI k = nI al ↔ k = al) := fun k hk => ⟨fun q => by
  have h1 := nI_toInt (n := k) (by omega)
  rw [q, nI_toInt (by omega)] at h1
  omega, fun q => by rw [q]⟩
theorem sim_sets {al : Nat} {n0 m0 f jo : Int32} (hnd : nd ≤ 10) (hjo : ∀ k, k < nd → (nI k = jo ↔ k = al)) (h : MM al nd g t) (hu : g.1 1 = 1) (h3 : g.1 3 = t.1 7 ∧ t.1 5 = U) (hs0 : 0 < t.1 1 + 1) : OC al nd U (gf_4_setSuper R nd g n0 m0 f jo) (mf_sets R nd t n0 m0 f jo).1 (mf_sets R nd t n0 m0 f jo).2 := by
  unfold gf_4_setSuper mf_sets
  exact sim_sets_l hnd hjo (nd + 1) 0 _ g t (by omega) (by omega) h hu h3 (by rw [h.1.2.2.2.2.2.1]) (by rw [h.1.2.2.2.2.2.1]; exact hs0)
/-! backups -/
theorem tellbv_l {d : Nat} {q : Int32} : ∀ (j k : Nat) (g1 : GS), (gg_0_tell_b_v_7 R nd d q j k g1).1 = g1.1 ∧ (gg_0_tell_b_v_7 R nd d q j k g1).2.1 = g1.2.1 := by
  intro j
  induction j with
  | zero => intro k g1; exact ⟨rfl, rfl⟩
  | succ j ih =>
    intro k g1
    rw [gg_0_tell_b_v_7]
    repeat' split
    all_goals first | exact ⟨rfl, rfl⟩ | exact ih _ _
theorem takeBackup_eq {k : Nat} {q : Int32} : (gf_1_takeBackup_d_v R nd g k q).1 = (gdi (gdi g 11 k (g.2.1 11 k + 1)) 9 k q).1 ∧ (gf_1_takeBackup_d_v R nd g k q).2.1 = (gdi (gdi g 11 k (g.2.1 11 k + 1)) 9 k q).2.1 := by
  obtain ⟨e1, e2⟩ := tellbv_l (R := R) (nd := nd) (d := k) (q := q) 11 0 (gdi g 9 k q)
  unfold gf_1_takeBackup_d_v gf_0_tell_b_v
  generalize gg_0_tell_b_v_7 R nd k q 11 0 (gdi g 9 k q) = G at e1 e2 ⊢
  refine ⟨e1, ?_⟩
  funext a d
  simp only [gdi, va_up] at e2 ⊢
  rw [e2]
  by_cases a1 : a = 11
  · subst a1; simp [va_up]
  · by_cases a2 : a = 9
    · subst a2; simp [va_up]
    · simp [va_up, a1, a2]
theorem MM_bk {al k : Nat} (hk : k < nd) (h : MM al nd g t) : MM al nd (gdi g 9 k (g.1 8)) (ti t 9 k (t.1 1)) := by
  obtain ⟨hsE, hd, hs, ha⟩ := h
  refine ⟨hsE, fun d h9 => ?_, fun d h9 e => ?_, fun d h9 e => ?_⟩
  · obtain ⟨a1, a2, a3, a4, a5, a6, a7, a8⟩ := hd d h9
    unfold dE
    by_cases e : d = k
    · subst e
      simp [gdi, ti, va_up, a1, a2, a3, a4, a5, a8, hsE.2.2.2.2.2.1]
      exact a6
    · simp [gdi, ti, va_up, a1, a2, a3, a4, a5, a7, a8, e]
      exact a6
  · have q := hs d h9 e
    unfold stE at q ⊢
    simpa [gdi, ti, va_up] using q
  · have q := ha d h9 e
    simpa [gdi, ti, va_up] using q
theorem sim_bk_l (hnd : nd ≤ 10) : ∀ (j k : Nat) (g1 : GS) (t1 : MS), k ≤ nd → nd < k + j → MM nd nd g1 t1 → g1.1 1 = 1 → (g1.1 3 = t1.1 7 ∧ t1.1 5 = U) → OC nd nd U (gg_4_writeBackups_2 R nd j k g1) (mg_backups_2 R nd j k t1).1 (mg_backups_2 R nd j k t1).2 := by
  intro j
  induction j with
  | zero => intro k g1 t1 h1 h2; omega
  | succ j ih =>
    intro k g1 t1 h1 h2 h hu h3
    rw [gg_4_writeBackups_2, mg_backups_2]
    by_cases c : nI nd ≤ nI k
    · rw [if_pos c, if_pos c]
      exact Or.inl ⟨rfl, hu, h, h3⟩
    · have hk : k < nd := nd_lt c (by omega)
      rw [if_neg c, if_neg c]
      have lv := live_k (R := R) hk hnd (h.2.1 k hk) (h.2.2.1 k hk (by omega))
      by_cases c0 : t1.2.1 0 k = 0
      · rw [if_pos c0, if_neg (fun q => (lv.mp q) c0)]
        by_cases cp : t1.1 6 = 0
        · obtain ⟨m1, m2, m3, m4, m5⟩ := MM_no (R := R) hnd h hu cp
          rw [pokes_no hnd cp, if_pos m2, if_pos rfl, dn_bk_l _ _ _ m4]
          exact Or.inr ⟨rfl, m4, m5, m1⟩
        · rw [pokes_ok (by omega) cp, spend_ok hu (by rw [h.1.1]; exact cp), if_neg (show ¬ (1 : Int32) = 0 by decide), if_neg (show ¬ (1 : Int32) = 0 by decide), h.1.1]
          obtain ⟨e1, e2⟩ := takeBackup_eq (R := R) (nd := nd) (g := gsi (gsi g1 2 (dec9 (t1.1 6))) 5 (g1.1 5 + 1)) (k := k) (q := (gsi (gsi g1 2 (dec9 (t1.1 6))) 5 (g1.1 5 + 1)).1 8)
          refine ih (k + 1) _ _ (by omega) (by omega) (MM_ext e1 e2 (MM_bk (g := gdi (gsi (gsi g1 2 (dec9 (t1.1 6))) 5 (g1.1 5 + 1)) 11 k (g1.2.1 11 k + 1)) hk (MM_tick hk h))) ?_ ?_
          · rw [e1]; exact hu
          · rw [e1]; exact h3
      · rw [if_neg c0, if_pos (lv.mpr c0)]
        exact ih (k + 1) g1 t1 (by omega) (by omega) h hu h3
theorem sim_bk (hnd : nd ≤ 10) (h : MM nd nd g t) (hu : g.1 1 = 1) (h3 : g.1 3 = t.1 7 ∧ t.1 5 = U) : OC nd nd U (gf_4_writeBackups R nd g) (mf_backups R nd t).1 (mf_backups R nd t).2 := by
  unfold gf_4_writeBackups mf_backups
  exact sim_bk_l hnd (nd + 1) 0 g t (by omega) (by omega) h hu h3
/-! a journal -/
theorem takeJournal_eq {k : Nat} : (gf_1_takeJournal_d_r R nd g k).1 = (gdi (gdi (gdi (gdi (gdi (gdi g 11 k (g.2.1 11 k + 1)) 4 k (g.1 12)) 5 k (g.1 13)) 6 k (g.1 14)) 7 k (g.1 15)) 8 k (g.1 16)).1 ∧ (gf_1_takeJournal_d_r R nd g k).2.1 = (gdi (gdi (gdi (gdi (gdi (gdi g 11 k (g.2.1 11 k + 1)) 4 k (g.1 12)) 5 k (g.1 13)) 6 k (g.1 14)) 7 k (g.1 15)) 8 k (g.1 16)).2.1 := by
  refine ⟨rfl, ?_⟩
  funext q d
  unfold gf_1_takeJournal_d_r gf_2_copyFrom_j_r gf_2_tell_j
  simp only [gdi, gli, va_up]
  by_cases e0 : q = 11
  · subst e0; simp
  · by_cases e1 : q = 8
    · subst e1; simp
    · by_cases e2 : q = 7
      · subst e2; simp
      · by_cases e3 : q = 6
        · subst e3; simp
        · by_cases e4 : q = 5
          · subst e4; simp
          · by_cases e5 : q = 4
            · subst e5; simp
            · simp [e0, e1, e2, e3, e4, e5]
theorem MM_jr {al k : Nat} {q s w x y a : Int32} (hk : k < nd) (h : MM al nd g t) : MM al nd (gdi (gdi (gdi (gdi (gdi g 4 k s) 5 k q) 6 k w) 7 k x) 8 k y) (ti (ti (ti t 6 k q) 7 k s) 8 k a) := by
  obtain ⟨hsE, hd, hs, ha⟩ := h
  refine ⟨hsE, fun d h9 => ?_, fun d h9 e => ?_, fun d h9 e => ?_⟩
  · obtain ⟨a1, a2, a3, a4, a5, a6, a7, a8⟩ := hd d h9
    unfold dE
    by_cases e : d = k
    · subst e
      simp [gdi, ti, va_up, a1, a2, a3, a4, a7, a8]
    · simp [gdi, ti, va_up, a1, a2, a3, a4, a5, a7, a8, e]
      exact a6
  · have q := hs d h9 e
    unfold stE at q ⊢
    simpa [gdi, ti, va_up] using q
  · have q := ha d h9 e
    simpa [gdi, ti, va_up] using q
end SIMD
