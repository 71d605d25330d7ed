/-! ===== THE BLOCKS: what each part of a call leaves on the disks, however far it came ===== -/
section EF
variable {R nd : Nat} {g : GS} {t : MS}
def hl4 (g : GS) : T4 := (g.1 8, g.1 9, g.1 10, g.1 11)
def sup4 (g : GS) (d : Nat) : T4 := (g.2.1 0 d, g.2.1 1 d, g.2.1 2 d, g.2.1 3 d)
theorem sp_cases (hu : g.1 1 = 1) : ((gf_4_spendWrite R nd g).1 = 1 ∧ (gf_4_spendWrite R nd g).2.1 1 = 1) ∨ ((gf_4_spendWrite R nd g).1 = 0 ∧ (gf_4_spendWrite R nd g).2.1 1 = 0) := by
  by_cases c : g.1 2 = 0
  · rw [spend_no hu c]
    exact Or.inr ⟨rfl, rfl⟩
  · rw [spend_ok hu c]
    exact Or.inl ⟨rfl, hu⟩
/-! supers -/
def SE (tgt : Nat → Prop) (nw : T4) (g G : GS) (k : Nat) : Prop := (∀ d, d < k → tgt d → sup4 G d = nw) ∧ (∀ d, ¬ (d < k ∧ tgt d) → sup4 G d = sup4 g d) ∧ (∀ q, 4 ≤ q → ¬ q = 11 → G.2.1 q = g.2.1 q) ∧ G.2.2 = g.2.2
theorem SE.arr {tgt : Nat → Prop} {nw : T4} {G G' : GS} {k : Nat} (e : G'.2 = G.2) (h : SE tgt nw g G k) : SE tgt nw g G' k := by
  unfold SE sup4 at *
  rw [e]
  exact h
theorem SE.z {tgt : Nat → Prop} {nw : T4} : SE tgt nw g g 0 := ⟨fun d hd => by omega, fun _ _ => rfl, fun _ _ _ => rfl, rfl⟩
theorem SE.skip {tgt : Nat → Prop} {nw : T4} {G : GS} {k : Nat} (h : SE tgt nw g G k) (hk : ¬ tgt k) : SE tgt nw g G (k + 1) := by
  refine ⟨fun d h1 h2 => ?_, fun d h1 => h.2.1 d (fun q => h1 ⟨by omega, q.2⟩), h.2.2⟩
  refine h.1 d ?_ h2
  rcases Nat.lt_or_ge d k with q | q
  · exact q
  · exact absurd (show tgt k by rw [← show d = k by omega]; exact h2) hk
theorem ts_sup {k d : Nat} {sq n0 m0 f : Int32} : sup4 (gf_1_takeSuper_d R nd g k sq n0 m0 f) d = if d = k then (sq, n0, m0, f) else sup4 g d := by
  by_cases e : d = k
  · subst e
    rw [if_pos rfl]
    simp [sup4, gf_1_takeSuper_d, gf_3_tell_s, gdi, va_up]
  · rw [if_neg e]
    simp [sup4, gf_1_takeSuper_d, gf_3_tell_s, gdi, va_up, e]
theorem ts_q {k q : Nat} {sq n0 m0 f : Int32} (h4 : 4 ≤ q) (h11 : ¬ q = 11) : (gf_1_takeSuper_d R nd g k sq n0 m0 f).2.1 q = g.2.1 q := by
  simp [gf_1_takeSuper_d, gf_3_tell_s, gdi, va_up, h11, show ¬ q = 0 by omega, show ¬ q = 1 by omega, show ¬ q = 2 by omega, show ¬ q = 3 by omega]
theorem SE.set {tgt : Nat → Prop} {sq n0 m0 f : Int32} {G G' : GS} {k : Nat} (e : G'.2 = G.2) (h : SE tgt (sq, n0, m0, f) g G k) (hk : tgt k) : SE tgt (sq, n0, m0, f) g (gf_1_takeSuper_d R nd G' k sq n0 m0 f) (k + 1) := by
  have h' := h.arr e
  refine ⟨fun d h1 h2 => ?_, fun d h1 => ?_, fun q h4 h11 => ?_, h'.2.2.2⟩
  · rw [ts_sup]
    by_cases c : d = k
    · rw [if_pos c]
    · rw [if_neg c]
      exact h'.1 d (by omega) h2
  · rw [ts_sup, if_neg (fun q => h1 ⟨by omega, by rw [q]; exact hk⟩)]
    exact h'.2.1 d (fun q => h1 ⟨by omega, q.2⟩)
  · rw [ts_q h4 h11]
    exact h'.2.2.1 q h4 h11
theorem SE.lv {tgt : Nat → Prop} {nw : T4} {G : GS} {k : Nat} (h : SE tgt nw g G k) {d : Nat} (hd : k ≤ d) : lvD nd G d ↔ lvD nd g d := by
  have e := h.2.1 d (fun q => by omega)
  unfold lvD
  rw [show G.2.1 0 d = g.2.1 0 d from congrArg Prod.fst e, h.2.2.1 10 (by decide) (by decide)]
theorem ef_set_l {n0 m0 f jo sq : Int32} {tgt : Nat → Prop} (hnd : nd ≤ 10) (htg : ∀ d, d < nd → (tgt d ↔ (lvD nd g d ∨ nI d = jo))) : ∀ (j k : Nat) (g1 : GS), k ≤ nd → nd < k + j → g1.1 1 = 1 → SE tgt (sq, n0, m0, f) g g1 k →
    ∃ k2, k2 ≤ nd ∧ SE tgt (sq, n0, m0, f) g (gg_4_setSuper_14 R nd n0 m0 f jo j k sq g1) k2 ∧ (((gg_4_setSuper_14 R nd n0 m0 f jo j k sq g1).1 1 = 1 ∧ k2 = nd ∧ hl4 (gg_4_setSuper_14 R nd n0 m0 f jo j k sq g1) = (sq, n0, m0, f)) ∨ (gg_4_setSuper_14 R nd n0 m0 f jo j k sq g1).1 1 = 0) := by
  intro j
  induction j with
  | zero => intro k g1 h1 h2; omega
  | succ j ih =>
    intro k g1 h1 h2 hu hS
    rw [gg_4_setSuper_14]
    by_cases c : nI nd ≤ nI k
    · have hk : nd ≤ k := ndle c (by omega)
      rw [if_pos c, if_neg (show ¬ g1.1 1 = 0 by rw [hu]; decide)]
      refine ⟨k, h1, hS.arr rfl, Or.inl ⟨?_, by omega, ?_⟩⟩
      · simp [gf_3_tell_h, gsi, va_up, hu]
      · simp [hl4, gf_3_tell_h, gsi, va_up]
    · have hk : k < nd := nd_lt c (by omega)
      rw [if_neg c]
      have lk := (lvk_iff (R := R) (g := g1) hk hnd).trans (not_congr (hS.lv (Nat.le_refl k)))
      have doit : tgt k → ∃ k2, k2 ≤ nd ∧ SE tgt (sq, n0, m0, f) g (if (gf_4_spendWrite R nd g1).1 = 0 then gg_4_setSuper_14 R nd n0 m0 f jo j (k + 1) sq (gf_4_spendWrite R nd g1).2 else gg_4_setSuper_14 R nd n0 m0 f jo j (k + 1) sq (gf_1_takeSuper_d R nd (gf_4_spendWrite R nd g1).2 k sq n0 m0 f)) k2 ∧ (((if (gf_4_spendWrite R nd g1).1 = 0 then gg_4_setSuper_14 R nd n0 m0 f jo j (k + 1) sq (gf_4_spendWrite R nd g1).2 else gg_4_setSuper_14 R nd n0 m0 f jo j (k + 1) sq (gf_1_takeSuper_d R nd (gf_4_spendWrite R nd g1).2 k sq n0 m0 f)).1 1 = 1 ∧ k2 = nd ∧ hl4 (if (gf_4_spendWrite R nd g1).1 = 0 then gg_4_setSuper_14 R nd n0 m0 f jo j (k + 1) sq (gf_4_spendWrite R nd g1).2 else gg_4_setSuper_14 R nd n0 m0 f jo j (k + 1) sq (gf_1_takeSuper_d R nd (gf_4_spendWrite R nd g1).2 k sq n0 m0 f)) = (sq, n0, m0, f)) ∨ (if (gf_4_spendWrite R nd g1).1 = 0 then gg_4_setSuper_14 R nd n0 m0 f jo j (k + 1) sq (gf_4_spendWrite R nd g1).2 else gg_4_setSuper_14 R nd n0 m0 f jo j (k + 1) sq (gf_1_takeSuper_d R nd (gf_4_spendWrite R nd g1).2 k sq n0 m0 f)).1 1 = 0) := by
        intro ht
        rcases sp_cases (R := R) (nd := nd) hu with ⟨s1, s2⟩ | ⟨s1, s2⟩
        · rw [s1, if_neg (show ¬ (1 : Int32) = 0 by decide)]
          exact ih (k + 1) _ (by omega) (by omega) (by rw [takeSuper_eq.1]; exact s2) (hS.set spend_arr ht)
        · rw [s1, if_pos rfl, dn_set_l _ _ _ _ s2]
          exact ⟨k, h1, hS.arr spend_arr, Or.inr s2⟩
      by_cases c0 : lvD nd g k
      · rw [if_neg (fun q => lk.mp q c0)]
        exact doit ((htg k hk).mpr (Or.inl c0))
      · rw [if_pos (lk.mpr c0)]
        by_cases c1 : nI k = jo
        · rw [if_pos c1]
          exact doit ((htg k hk).mpr (Or.inr c1))
        · rw [if_neg c1]
          exact ih (k + 1) g1 (by omega) (by omega) hu (hS.skip (fun q => ((htg k hk).mp q).elim c0 c1))
theorem ef_set {n0 m0 f jo : Int32} (hnd : nd ≤ 10) (hu : g.1 1 = 1) : ∃ k, k ≤ nd ∧ SE (fun d => lvD nd g d ∨ nI d = jo) (g.1 8 + 1, n0, m0, f) g (gf_4_setSuper R nd g n0 m0 f jo) k ∧ (((gf_4_setSuper R nd g n0 m0 f jo).1 1 = 1 ∧ k = nd ∧ hl4 (gf_4_setSuper R nd g n0 m0 f jo) = (g.1 8 + 1, n0, m0, f)) ∨ (gf_4_setSuper R nd g n0 m0 f jo).1 1 = 0) :=
  ef_set_l hnd (fun _ _ => Iff.rfl) (nd + 1) 0 g (by omega) (by omega) hu SE.z
theorem ef_lev_l {sq n0 m0 f : Int32} (hnd : nd ≤ 10) (hs : ∀ d, lvD nd g d → g.2.1 0 d = sq → sup4 g d = (sq, n0, m0, f)) : ∀ (j k : Nat) (g1 : GS), k ≤ nd → nd < k + j → g1.1 1 = 1 → g1.1 8 = sq → g1.1 9 = n0 → g1.1 10 = m0 → g1.1 11 = f → SE (lvD nd g) (sq, n0, m0, f) g g1 k →
    ∃ k2, k2 ≤ nd ∧ SE (lvD nd g) (sq, n0, m0, f) g (gg_4_levelSupers_2 R nd j k g1) k2 ∧ (((gg_4_levelSupers_2 R nd j k g1).1 1 = 1 ∧ k2 = nd) ∨ (gg_4_levelSupers_2 R nd j k g1).1 1 = 0) := by
  intro j
  induction j with
  | zero => intro k g1 h1 h2; omega
  | succ j ih =>
    intro k g1 h1 h2 hu e8 e9 e10 e11 hS
    rw [gg_4_levelSupers_2]
    by_cases c : nI nd ≤ nI k
    · have hk : nd ≤ k := ndle c (by omega)
      rw [if_pos c]
      exact ⟨k, h1, hS, Or.inl ⟨hu, by omega⟩⟩
    · have hk : k < nd := nd_lt c (by omega)
      rw [if_neg c]
      have lk := (lvk_iff (R := R) (g := g1) hk hnd).trans (not_congr (hS.lv (Nat.le_refl k)))
      have ek : g1.2.1 0 k = g.2.1 0 k := congrArg Prod.fst (hS.2.1 k (fun q => by omega))
      rw [ek, e8]
      by_cases c1 : g.2.1 0 k = sq
      · rw [if_pos c1, ite_self]
        by_cases c0 : lvD nd g k
        · refine ih (k + 1) g1 (by omega) (by omega) hu e8 e9 e10 e11 ⟨fun d x1 x2 => ?_, fun d x1 => hS.2.1 d (fun q => x1 ⟨by omega, q.2⟩), hS.2.2⟩
          rcases Nat.lt_or_ge d k with q | q
          · exact hS.1 d q x2
          · have e : d = k := by omega
            subst e
            rw [hS.2.1 d (fun q => by omega)]
            exact hs d c0 c1
        · exact ih (k + 1) g1 (by omega) (by omega) hu e8 e9 e10 e11 (hS.skip c0)
      · rw [if_neg c1]
        by_cases c0 : lvD nd g k
        · rw [if_neg (fun q => lk.mp q c0)]
          rcases sp_cases (R := R) (nd := nd) hu with ⟨s1, s2⟩ | ⟨s1, s2⟩
          · have sk := fun z h1 h2 h5 h7 => spend_keep (R := R) (nd := nd) (g := g1) z h1 h2 h5 h7
            have e8' := (sk 8 (by decide) (by decide) (by decide) (by decide)).trans e8
            have e9' := (sk 9 (by decide) (by decide) (by decide) (by decide)).trans e9
            have e10' := (sk 10 (by decide) (by decide) (by decide) (by decide)).trans e10
            have e11' := (sk 11 (by decide) (by decide) (by decide) (by decide)).trans e11
            have eT : gf_1_takeSuper__d_h R nd (gf_4_spendWrite R nd g1).2 k = gf_1_takeSuper_d R nd (gf_4_spendWrite R nd g1).2 k sq n0 m0 f := by
              rw [← e8', ← e9', ← e10', ← e11']
              rfl
            rw [s1, if_neg (show ¬ (1 : Int32) = 0 by decide), eT]
            exact ih (k + 1) _ (by omega) (by omega) (by rw [takeSuper_eq.1]; exact s2) (by rw [takeSuper_eq.1]; exact e8') (by rw [takeSuper_eq.1]; exact e9') (by rw [takeSuper_eq.1]; exact e10') (by rw [takeSuper_eq.1]; exact e11') (hS.set spend_arr c0)
          · rw [s1, if_pos rfl, dn_lev_l _ _ _ s2]
            exact ⟨k, h1, hS.arr spend_arr, Or.inr s2⟩
        · rw [if_pos (lk.mpr c0)]
          exact ih (k + 1) g1 (by omega) (by omega) hu e8 e9 e10 e11 (hS.skip c0)
/-! backups -/
def BE (nd : Nat) (g G : GS) (k : Nat) : Prop := (∀ d, d < k → lvD nd g d → G.2.1 9 d = g.1 8 ∧ ∀ i, i < 10 → G.2.2 3 d i = g.2.2 1 0 i) ∧ (∀ d, ¬ (d < k ∧ lvD nd g d) → G.2.1 9 d = g.2.1 9 d ∧ G.2.2 3 d = g.2.2 3 d) ∧ (∀ q, ¬ q = 9 → ¬ q = 11 → G.2.1 q = g.2.1 q) ∧ ∀ q, ¬ q = 3 → G.2.2 q = g.2.2 q
theorem tbv_l {d : Nat} {q : Int32} : ∀ (j k : Nat) (g1 : GS), k ≤ 10 → 10 < k + j → (∀ z, ¬ z = 3 → (gg_0_tell_b_v_7 R nd d q j k g1).2.2 z = g1.2.2 z) ∧ (∀ e, ¬ e = d → (gg_0_tell_b_v_7 R nd d q j k g1).2.2 3 e = g1.2.2 3 e) ∧ (∀ i, k ≤ i → i < 10 → (gg_0_tell_b_v_7 R nd d q j k g1).2.2 3 d i = g1.2.2 1 0 i) ∧ ∀ i, i < k → (gg_0_tell_b_v_7 R nd d q j k g1).2.2 3 d i = g1.2.2 3 d i := by
  intro j
  induction j with
  | zero => intro k g1 h1 h2; omega
  | succ j ih =>
    intro k g1 h1 h2
    rw [gg_0_tell_b_v_7]
    by_cases c : nI 10 ≤ nI k
    · have hk : 10 ≤ k := ndle c (by omega)
      rw [if_pos c]
      exact ⟨fun _ _ => rfl, fun _ _ => rfl, fun i h3 h4 => by omega, fun _ _ => rfl⟩
    · have hk : k < 10 := nd_lt c (by omega)
      rw [if_neg c, if_neg c]
      obtain ⟨a1, a2, a3, a4⟩ := ih (k + 1) (gli g1 3 d k (g1.2.2 1 0 k)) (by omega) (by omega)
      refine ⟨fun z hz => ?_, fun e he => ?_, fun i h3 h4 => ?_, fun i hi => ?_⟩
      · rw [a1 z hz]
        simp [gli, va_up, hz]
      · rw [a2 e he]
        simp [gli, va_up, he]
      · rcases Nat.lt_or_ge k i with q | q
        · rw [a3 i q h4]
          simp [gli, va_up]
        · have e : i = k := by omega
          subst e
          rw [a4 i (by omega)]
          simp [gli, va_up]
      · rw [a4 i (by omega)]
        simp [gli, va_up, show ¬ i = k by omega]
theorem tb_l {k : Nat} {q : Int32} : (∀ z, ¬ z = 3 → (gf_1_takeBackup_d_v R nd g k q).2.2 z = g.2.2 z) ∧ (∀ e, ¬ e = k → (gf_1_takeBackup_d_v R nd g k q).2.2 3 e = g.2.2 3 e) ∧ ∀ i, i < 10 → (gf_1_takeBackup_d_v R nd g k q).2.2 3 k i = g.2.2 1 0 i := by
  obtain ⟨a1, a2, a3, -⟩ := tbv_l (R := R) (nd := nd) (d := k) (q := q) 11 0 (gdi g 9 k q) (by omega) (by omega)
  exact ⟨a1, a2, fun i hi => a3 i (by omega) hi⟩
theorem BE.arr {G G' : GS} {k : Nat} (e : G'.2 = G.2) (h : BE nd g G k) : BE nd g G' k := by
  unfold BE at *
  rw [e]
  exact h
theorem ef_bk_l (hnd : nd ≤ 10) : ∀ (j k : Nat) (g1 : GS), k ≤ nd → nd < k + j → g1.1 1 = 1 → g1.1 8 = g.1 8 → BE nd g g1 k →
    ∃ k2, k2 ≤ nd ∧ BE nd g (gg_4_writeBackups_2 R nd j k g1) k2 ∧ (((gg_4_writeBackups_2 R nd j k g1).1 1 = 1 ∧ k2 = nd) ∨ (gg_4_writeBackups_2 R nd j k g1).1 1 = 0) := by
  intro j
  induction j with
  | zero => intro k g1 h1 h2; omega
  | succ j ih =>
    intro k g1 h1 h2 hu e8 hS
    rw [gg_4_writeBackups_2]
    by_cases c : nI nd ≤ nI k
    · have hk : nd ≤ k := ndle c (by omega)
      rw [if_pos c]
      exact ⟨k, h1, hS, Or.inl ⟨hu, by omega⟩⟩
    · have hk : k < nd := nd_lt c (by omega)
      rw [if_neg c]
      have lk : gf_4_isLive R nd g1 (nI k) = 0 ↔ ¬ lvD nd g k := by
        rw [lvk_iff hk hnd]
        unfold lvD
        rw [hS.2.2.1 0 (by decide) (by decide), hS.2.2.1 10 (by decide) (by decide)]
      by_cases c0 : lvD nd g k
      · rw [if_neg (fun q => lk.mp q c0)]
        rcases sp_cases (R := R) (nd := nd) hu with ⟨s1, s2⟩ | ⟨s1, s2⟩
        · rw [s1, if_neg (show ¬ (1 : Int32) = 0 by decide)]
          have h' := hS.arr (spend_arr (R := R) (nd := nd) (g := g1))
          have e8' : (gf_4_spendWrite R nd g1).2.1 8 = g.1 8 := (spend_keep 8 (by decide) (by decide) (by decide) (by decide)).trans e8
          rw [e8']
          generalize (gf_4_spendWrite R nd g1).2 = g2 at h' e8' s2
          obtain ⟨b1, b2⟩ := takeBackup_eq (R := R) (nd := nd) (g := g2) (k := k) (q := g.1 8)
          obtain ⟨a1, a2, a3⟩ := tb_l (R := R) (nd := nd) (g := g2) (k := k) (q := g.1 8)
          refine ih (k + 1) _ (by omega) (by omega) (by rw [b1]; exact s2) (by rw [b1]; exact e8') ⟨fun d x1 x2 => ?_, fun d x1 => ?_, fun q x1 x2 => ?_, fun q x1 => ?_⟩
          · by_cases e : d = k
            · subst e
              refine ⟨by rw [b2]; simp [gdi, va_up], fun i hi => ?_⟩
              rw [a3 i hi, h'.2.2.2 1 (by decide)]
            · obtain ⟨y1, y2⟩ := h'.1 d (by omega) x2
              refine ⟨by rw [b2]; simp [gdi, va_up, e]; exact y1, fun i hi => ?_⟩
              rw [a2 d e]
              exact y2 i hi
          · have e : ¬ d = k := fun q => x1 ⟨by omega, by rw [q]; exact c0⟩
            obtain ⟨y1, y2⟩ := h'.2.1 d (fun q => x1 ⟨by omega, q.2⟩)
            refine ⟨by rw [b2]; simp [gdi, va_up, e]; exact y1, ?_⟩
            rw [a2 d e]
            exact y2
          · rw [b2, ← h'.2.2.1 q x1 x2]
            simp [gdi, va_up, x1, x2]
          · rw [a1 q x1]
            exact h'.2.2.2 q x1
        · rw [s1, if_pos rfl, dn_bk_l _ _ _ s2]
          exact ⟨k, h1, hS.arr spend_arr, Or.inr s2⟩
      · rw [if_pos (lk.mpr c0)]
        refine ih (k + 1) g1 (by omega) (by omega) hu e8 ⟨fun d x1 x2 => hS.1 d ?_ x2, fun d x1 => hS.2.1 d (fun q => x1 ⟨by omega, q.2⟩), hS.2.2⟩
        rcases Nat.lt_or_ge d k with q | q
        · exact q
        · exact absurd (show lvD nd g k by rw [← show d = k by omega]; exact x2) c0
theorem ef_bk (hnd : nd ≤ 10) (hu : g.1 1 = 1) : ∃ k, k ≤ nd ∧ BE nd g (gf_4_writeBackups R nd g) k ∧ (((gf_4_writeBackups R nd g).1 1 = 1 ∧ k = nd) ∨ (gf_4_writeBackups R nd g).1 1 = 0) :=
  ef_bk_l hnd (nd + 1) 0 g (by omega) (by omega) hu rfl ⟨fun d hd => by omega, fun _ _ => ⟨rfl, rfl⟩, fun _ _ _ => rfl, fun _ _ => rfl⟩
/-! a block -/
def wbl (nd : Nat) (g : GS) (d r : Nat) : Prop := lvD nd g d ∨ (d < nd ∧ g.2.1 10 d = 0 ∧ g.2.1 0 d = 0 ∧ ¬ g.1 3 ≤ nI r)
theorem reb_iff {d r : Nat} (hd : d < nd) (hnd : nd ≤ 10) : gf_4_isRebuilt R nd g (nI d) (nI r) = 0 ↔ ¬ (d < nd ∧ g.2.1 10 d = 0 ∧ g.2.1 0 d = 0 ∧ ¬ g.1 3 ≤ nI r) := by
  unfold gf_4_isRebuilt gf_1_isRebuilding_d
  rw [if_neg (there_k hd hnd), nI_clamp (by omega)]
  by_cases c : g.2.1 10 d = 0
  · rw [if_pos c]
    by_cases c2 : g.2.1 0 d = 0
    · rw [if_pos c2, if_neg (show ¬ (1 : Int32) = 0 by decide)]
      by_cases c3 : g.1 3 ≤ nI r
      · rw [if_pos c3]
        exact ⟨fun _ q => q.2.2.2 c3, fun _ => rfl⟩
      · rw [if_neg c3]
        exact ⟨fun q => absurd q (by decide), fun q => absurd ⟨hd, c, c2, c3⟩ q⟩
    · rw [if_neg c2, if_pos rfl]
      exact ⟨fun _ q => c2 q.2.2.1, fun _ => rfl⟩
  · rw [if_neg c, if_pos rfl]
    exact ⟨fun _ q => c q.2.1, fun _ => rfl⟩
theorem ef_wb {d r : Nat} {v : Int64} (hd : d < nd) (hnd : nd ≤ 10) (hr : r < R) (hR : R ≤ 48) (hu : g.1 1 = 1) : (¬ wbl nd g d r ∧ gf_4_writeBlock R nd g (nI d) (nI r) v = g) ∨ (wbl nd g d r ∧ (((gf_4_writeBlock R nd g (nI d) (nI r) v).1 1 = 1 ∧ (gf_4_writeBlock R nd g (nI d) (nI r) v).2.2 = (gli g 4 d r v).2.2) ∨ ((gf_4_writeBlock R nd g (nI d) (nI r) v).1 1 = 0 ∧ (gf_4_writeBlock R nd g (nI d) (nI r) v).2.2 = g.2.2))) := by
  have tk : ((if (gf_4_spendWrite R nd g).1 = 0 then (gf_4_spendWrite R nd g).2 else gf_1_takeBlock_d R nd (gf_4_spendWrite R nd g).2 (nI d).toNatClampNeg (nI r) v).1 1 = 1 ∧ (if (gf_4_spendWrite R nd g).1 = 0 then (gf_4_spendWrite R nd g).2 else gf_1_takeBlock_d R nd (gf_4_spendWrite R nd g).2 (nI d).toNatClampNeg (nI r) v).2.2 = (gli g 4 d r v).2.2) ∨ ((if (gf_4_spendWrite R nd g).1 = 0 then (gf_4_spendWrite R nd g).2 else gf_1_takeBlock_d R nd (gf_4_spendWrite R nd g).2 (nI d).toNatClampNeg (nI r) v).1 1 = 0 ∧ (if (gf_4_spendWrite R nd g).1 = 0 then (gf_4_spendWrite R nd g).2 else gf_1_takeBlock_d R nd (gf_4_spendWrite R nd g).2 (nI d).toNatClampNeg (nI r) v).2.2 = g.2.2) := by
    rcases sp_cases (R := R) (nd := nd) hu with ⟨s1, s2⟩ | ⟨s1, s2⟩
    · rw [s1, if_neg (show ¬ (1 : Int32) = 0 by decide), nI_clamp (by omega)]
      unfold gf_1_takeBlock_d
      rw [if_neg (nI_pos (by omega)), if_neg (nI_ge hr (by omega)), nI_clamp (by omega)]
      refine Or.inl ⟨s2, ?_⟩
      show (gli (gf_4_spendWrite R nd g).2 4 d r v).2.2 = _
      unfold gli
      rw [spend_arr]
    · rw [s1, if_pos rfl]
      exact Or.inr ⟨s2, by rw [spend_arr]⟩
  have l1 := lvk_iff (R := R) (g := g) hd hnd
  have l2 := reb_iff (R := R) (g := g) (r := r) hd hnd
  unfold gf_4_writeBlock
  by_cases c : lvD nd g d
  · rw [if_neg (fun q => l1.mp q c)]
    exact Or.inr ⟨Or.inl c, tk⟩
  · rw [if_pos (l1.mpr c)]
    by_cases c2 : d < nd ∧ g.2.1 10 d = 0 ∧ g.2.1 0 d = 0 ∧ ¬ g.1 3 ≤ nI r
    · rw [if_neg (fun q => l2.mp q c2)]
      exact Or.inr ⟨Or.inr c2, tk⟩
    · rw [if_pos (l2.mpr c2)]
      exact Or.inl ⟨fun q => q.elim c c2, rfl⟩
end EF
