/-! ===== what each part of a call leaves as it was ===== -/
section SIMH
variable {R nd : Nat} {g : GS} {t : MS}
def GF (nd : Nat) (A : Nat → Prop) (g G : GS) : Prop := (∀ q, ¬ A q → G.2.1 q = g.2.1 q) ∧ ∀ q d, nd ≤ d → G.2.1 q d = g.2.1 q d
theorem GF.rf {A : Nat → Prop} : GF nd A g g := ⟨fun _ _ => rfl, fun _ _ _ => rfl⟩
theorem GF.tr {A : Nat → Prop} {G K : GS} (h : GF nd A g G) (k : GF nd A G K) : GF nd A g K := ⟨fun q hq => (k.1 q hq).trans (h.1 q hq), fun q d hd => (k.2 q d hd).trans (h.2 q d hd)⟩
theorem GF.mo {A B : Nat → Prop} {G : GS} (h : GF nd A g G) (ha : ∀ q, A q → B q) : GF nd B g G := ⟨fun q hq => h.1 q (fun z => hq (ha q z)), h.2⟩
theorem GF.of {A : Nat → Prop} {G : GS} (h : G.2.1 = g.2.1) : GF nd A g G := ⟨fun _ _ => by rw [h], fun _ _ _ => by rw [h]⟩
theorem GF.di {A : Nat → Prop} {k d : Nat} {v : Int32} (hk : A k) (hd : d < nd) : GF nd A g (gdi g k d v) := by
  refine ⟨fun q hq => va_up_ne _ _ (fun e => hq (e ▸ hk)), fun q e he => ?_⟩
  have h1 : ¬ e = d := by omega
  by_cases hq : q = k
  · subst hq; simp [gdi, va_up, h1]
  · simp [gdi, va_up, hq]
theorem spend_arr : (gf_4_spendWrite R nd g).2.2 = g.2 := by
  unfold gf_4_spendWrite
  repeat' split
  all_goals rfl
theorem GF_spend {A : Nat → Prop} : GF nd A g (gf_4_spendWrite R nd g).2 := GF.of (by rw [spend_arr])
theorem there_lt {x : Int32} (h : ¬ gf_4_isThere R nd g x = 0) (hnd : nd ≤ 10) : x.toNatClampNeg < nd := by
  rw [gp_there0] at h
  have := ix_of (x := x) (nd := nd) (N := nd) (fun q => h (Or.inl q)) (fun q => h (Or.inr q)) (Nat.le_refl _) (by omega)
  exact vp_lt this
abbrev a11 (q : Nat) : Prop := q = 11
theorem GF_wb {d0 row : Int32} {v : Int64} (hnd : nd ≤ 10) : GF nd a11 g (gf_4_writeBlock R nd g d0 row v) := by
  have key : ¬ gf_4_isThere R nd g d0 = 0 → GF nd a11 g (gf_1_takeBlock_d R nd (gf_4_spendWrite R nd g).2 d0.toNatClampNeg row v) := by
    intro h
    unfold gf_1_takeBlock_d
    repeat' split
    · exact GF_spend
    · exact GF_spend
    · exact GF_spend.tr ((GF.of (G := gli _ _ _ _ _) rfl).tr (GF.di rfl (there_lt h hnd)))
  have h1 : ¬ gf_4_isLive R nd g d0 = 0 → ¬ gf_4_isThere R nd g d0 = 0 := by
    intro h q
    unfold gf_4_isLive at h
    rw [if_pos q] at h
    exact h rfl
  have h2 : ¬ gf_4_isRebuilt R nd g d0 row = 0 → ¬ gf_4_isThere R nd g d0 = 0 := by
    intro h q
    unfold gf_4_isRebuilt at h
    rw [if_pos q] at h
    exact h rfl
  unfold gf_4_writeBlock
  split
  · split
    · exact GF.rf
    · rename_i c
      split
      · exact GF_spend
      · exact key (h2 c)
  · rename_i c
    split
    · exact GF_spend
    · exact key (h1 c)
abbrev aSu (q : Nat) : Prop := q < 4 ∨ q = 11
theorem GF_ts {k : Nat} {sq n0 m0 f : Int32} (hk : k < nd) : GF nd aSu g (gf_1_takeSuper_d R nd g k sq n0 m0 f) := by
  unfold gf_1_takeSuper_d gf_3_tell_s
  exact (GF.di (by decide) hk).tr ((GF.di (by decide) hk).tr ((GF.di (by decide) hk).tr ((GF.di (by decide) hk).tr (GF.di (by decide) hk))))
theorem GF_set_l {n0 m0 f jo : Int32} (hnd : nd ≤ 10) : ∀ (j k : Nat) (sq : Int32) (g1 : GS), k ≤ nd → GF nd aSu g1 (gg_4_setSuper_14 R nd n0 m0 f jo j k sq g1) := by
  intro j
  induction j with
  | zero => intro k sq g1 hk; exact GF.rf
  | succ j ih =>
    intro k sq g1 hk0
    rw [gg_4_setSuper_14]
    by_cases c : nI nd ≤ nI k
    · rw [if_pos c]
      (split <;> first | exact GF.rf | exact GF.of rfl)
    · have hk : k < nd := nd_lt c (by omega)
      rw [if_neg c]
      repeat' split
      all_goals first | exact ih _ _ _ (by omega) | exact GF_spend.tr (ih _ _ _ (by omega)) | exact GF_spend.tr ((GF_ts hk).tr (ih _ _ _ (by omega)))
theorem GF_set {n0 m0 f jo : Int32} (hnd : nd ≤ 10) : GF nd aSu g (gf_4_setSuper R nd g n0 m0 f jo) := GF_set_l hnd _ _ _ _ (by omega)
theorem GF_tsh {k : Nat} (hk : k < nd) : GF nd aSu g (gf_1_takeSuper__d_h R nd g k) := by
  unfold gf_1_takeSuper__d_h gf_3_copyFrom_s_h gf_3_tell_s
  exact (GF.di (by decide) hk).tr ((GF.di (by decide) hk).tr ((GF.di (by decide) hk).tr ((GF.di (by decide) hk).tr (GF.di (by decide) hk))))
theorem GF_lev_l (hnd : nd ≤ 10) : ∀ (j k : Nat) (g1 : GS), k ≤ nd → GF nd aSu g1 (gg_4_levelSupers_2 R nd j k g1) := by
  intro j
  induction j with
  | zero => intro k g1 hk; exact GF.rf
  | succ j ih =>
    intro k g1 hk0
    rw [gg_4_levelSupers_2]
    by_cases c : nI nd ≤ nI k
    · rw [if_pos c]
      exact GF.rf
    · have hk : k < nd := nd_lt c (by omega)
      rw [if_neg c]
      repeat' split
      all_goals first | exact ih _ _ (by omega) | exact GF_spend.tr (ih _ _ (by omega)) | exact GF_spend.tr ((GF_tsh hk).tr (ih _ _ (by omega)))
theorem GF_lev (hnd : nd ≤ 10) : GF nd aSu g (gf_4_levelSupers R nd g) := GF_lev_l hnd _ _ _ (by omega)
abbrev aBk (q : Nat) : Prop := q = 9 ∨ q = 11
theorem GF_tb {k : Nat} {q : Int32} (hk : k < nd) : GF nd aBk g (gf_1_takeBackup_d_v R nd g k q) := by
  obtain ⟨-, e⟩ := takeBackup_eq (R := R) (nd := nd) (g := g) (k := k) (q := q)
  have h : GF nd aBk g (gdi (gdi g 11 k (g.2.1 11 k + 1)) 9 k q) := (GF.di (by decide) hk).tr (GF.di (by decide) hk)
  exact h.tr (GF.of e)
theorem GF_bk_l (hnd : nd ≤ 10) : ∀ (j k : Nat) (g1 : GS), k ≤ nd → GF nd aBk g1 (gg_4_writeBackups_2 R nd j k g1) := by
  intro j
  induction j with
  | zero => intro k g1 hk; exact GF.rf
  | succ j ih =>
    intro k g1 hk0
    rw [gg_4_writeBackups_2]
    by_cases c : nI nd ≤ nI k
    · rw [if_pos c]
      exact GF.rf
    · have hk : k < nd := nd_lt c (by omega)
      rw [if_neg c]
      by_cases c1 : gf_4_isLive R nd g1 (nI k) = 0
      · rw [if_pos c1]; exact ih _ _ (by omega)
      · rw [if_neg c1]
        by_cases c2 : (gf_4_spendWrite R nd g1).1 = 0
        · rw [if_pos c2]; exact GF_spend.tr (ih _ _ (by omega))
        · rw [if_neg c2]; exact (GF_spend.tr (GF_tb hk)).tr (ih _ _ (by omega))
theorem GF_bk (hnd : nd ≤ 10) : GF nd aBk g (gf_4_writeBackups R nd g) := GF_bk_l hnd _ _ _ (by omega)
theorem GF_mr_l {row m0 : Int32} (hnd : nd ≤ 10) : ∀ (j k : Nat) (acc : Int64) (pd : Int32) (g1 : GS), GF nd a11 g1 (gg_4_writeMovedRow_51 R nd row m0 j k acc pd g1) := by
  intro j
  induction j with
  | zero => intro k acc pd g1; exact GF.rf
  | succ j ih =>
    intro k acc pd g1
    rw [gg_4_writeMovedRow_51]
    repeat' split
    all_goals first | exact GF.rf | exact (GF_wb hnd).tr (ih _ _ _ _)
theorem GF_mr {row m0 : Int32} (hnd : nd ≤ 10) : GF nd a11 g (gf_4_writeMovedRow R nd g row m0) := by
  obtain ⟨a2, e⟩ := mr_eq (R := R) (nd := nd) (g := g) (row := row) (m0 := m0)
  rw [e]
  exact GF_mr_l hnd _ _ _ _ _
theorem GF_move (hnd : nd ≤ 10) : GF nd aSu g (gf_4_moveRow R nd g) := by
  have h1 : ∀ row m0 : Int32, GF nd aSu g (gf_4_writeMovedRow R nd g row m0) := fun row m0 => (GF_mr hnd).mo (fun q h => Or.inr h)
  unfold gf_4_moveRow
  repeat' split
  all_goals first | exact (h1 _ _).tr (GF_set hnd) | exact ((h1 _ _).tr (GF_set hnd)).tr (GF.of rfl)
/-! the reference -/
theorem lasts_st (h : ¬ (mf_lasts R nd t).1 = 0) : (mf_lasts R nd t).2.2.1 0 = t.2.1 0 := by
  unfold mf_lasts at h ⊢
  split at h
  · exact absurd (mg_lasts_b _ _ _) h
  · rename_i c
    rw [if_neg c]
    split <;> rfl
theorem block_st {d row : Int32} (h : ¬ (mf_block R nd t d row).1 = 0) : (mf_block R nd t d row).2.2.1 0 = t.2.1 0 := by
  have key : ¬ (mf_pokes R nd t d).1 = 0 → (mf_pokes R nd t d).2.2.1 0 = t.2.1 0 := by
    intro h
    unfold mf_pokes at h ⊢
    split at h
    · exact absurd rfl h
    · rename_i c
      rw [if_neg c]
      simp only [si, ti, va_up, if_neg (show ¬ (0 : Nat) = 1 by decide)]
      exact lasts_st c
  unfold mf_block at h ⊢
  by_cases c0 : t.2.1 0 d.toNatClampNeg = 0
  · rw [if_pos c0] at h ⊢
    by_cases c1 : (mf_pokes R nd t d).1 = 0
    · rw [if_pos c1] at h; exact absurd rfl h
    · rw [if_neg c1]; exact key c1
  · rw [if_neg c0] at h ⊢
    by_cases c2 : t.2.1 0 d.toNatClampNeg = 2
    · rw [if_pos c2] at h ⊢
      by_cases c3 : t.1 7 ≤ row
      · rw [if_pos c3]
      · rw [if_neg c3] at h ⊢
        by_cases c1 : (mf_pokes R nd t d).1 = 0
        · rw [if_pos c1] at h; exact absurd rfl h
        · rw [if_neg c1]; exact key c1
    · rw [if_neg c2]
theorem moves_dec {M : Nat} (hM : M ≤ 10) : ∀ (j k : Nat) (t1 : MS), k ≤ M → M < k + j → t1.1 3 = nI M → (∃ T, Keep sPok aPok t1 T ∧ T.2.1 0 = t1.2.1 0 ∧ mg_moves_2 R nd j k t1 = mg_moves_2 R nd 1 M T) ∨ ((mg_moves_2 R nd j k t1).1 = 0 ∧ Keep sPok aPok t1 (mg_moves_2 R nd j k t1).2) := by
  intro j
  induction j with
  | zero => intro k t1 h1 h2; omega
  | succ j ih =>
    intro k t1 h1 h2 hm
    by_cases c : nI M ≤ nI k
    · have hk : k = M := by have := ndle c (by omega); omega
      subst hk
      refine Or.inl ⟨t1, Keep.rf, rfl, ?_⟩
      rw [mg_moves_2, mg_moves_2, hm, if_pos c, if_pos c]
    · have hk : k < M := nd_lt c (by omega)
      have e2 : mg_moves_2 R nd (j + 1) k t1 = if (mf_block R nd t1 (nI k) (t1.1 4)).1 = 0 then (0, (mf_block R nd t1 (nI k) (t1.1 4)).2) else mg_moves_2 R nd j (k + 1) (mf_block R nd t1 (nI k) (t1.1 4)).2 := by
        rw [mg_moves_2, hm, if_neg c]
      have kp := mf_block_keep (R := R) (nd := nd) t1 (nI k) (t1.1 4)
      rw [e2]
      by_cases cb : (mf_block R nd t1 (nI k) (t1.1 4)).1 = 0
      · rw [if_pos cb]
        exact Or.inr ⟨rfl, kp⟩
      · rw [if_neg cb]
        rcases ih (k + 1) _ (by omega) (by omega) ((kp.1 3 (by decide)).trans hm) with ⟨T, b1, b2, b3⟩ | ⟨b1, b2⟩
        · exact Or.inl ⟨T, kp.tr b1, b2.trans (block_st cb), b3⟩
        · exact Or.inr ⟨b1, kp.tr b2⟩
/-- what a set of supers does, on the reference's side -/
def SF (nd : Nat) (nw : T4) (jo : Int32) (t : MS) (r : Int32) (T : MS) : Prop := (∀ d, SUP T d = SUP t d ∨ (SUP T d = nw ∧ d < nd ∧ (t.2.1 0 d = 0 ∨ nI d = jo))) ∧ (∀ q, 6 ≤ q → T.2.1 q = t.2.1 q) ∧ (¬ r = 0 → HLD T = nw ∧ T.2.1 0 = t.2.1 0 ∧ ∀ d, d < nd → (t.2.1 0 d = 0 ∨ nI d = jo) → SUP T d = nw) ∧ (r = 0 → HLD T = HLD t) ∧ T.1 0 = t.1 0
theorem sets_sup_l {n0 m0 f jo : Int32} (hnd : nd ≤ 10) (t0 : MS) : ∀ (j k : Nat) (t1 : MS), k ≤ nd → nd < k + j → HLD t1 = HLD t0 → t1.2.1 0 = t0.2.1 0 → (∀ q, 6 ≤ q → t1.2.1 q = t0.2.1 q) → t1.1 0 = t0.1 0 → (∀ d, d < k → d < nd → (t0.2.1 0 d = 0 ∨ nI d = jo) → SUP t1 d = (t0.1 1 + 1, n0, m0, f)) → (∀ d, SUP t1 d = SUP t0 d ∨ (SUP t1 d = (t0.1 1 + 1, n0, m0, f) ∧ d < nd ∧ (t0.2.1 0 d = 0 ∨ nI d = jo))) →
    SF nd (t0.1 1 + 1, n0, m0, f) jo t0 (mg_sets_3 R nd n0 m0 f jo j k t1).1 (mg_sets_3 R nd n0 m0 f jo j k t1).2 := by
  intro j
  induction j with
  | zero => intro k t1 h1 h2; omega
  | succ j ih =>
    intro k t1 h1 h2 hh h0 h6 hz hb ha
    rw [mg_sets_3]
    have e1 : t1.1 1 = t0.1 1 := congrArg Prod.fst hh
    by_cases c : nI nd ≤ nI k
    · have hk : nd ≤ k := ndle c (by omega)
      rw [if_pos c]
      refine ⟨ha, h6, fun _ => ⟨?_, h0, fun d hd hv => hb d (by omega) hd hv⟩, fun q => absurd (show (1 : Int32) = 0 from q) (by decide), hz⟩
      show (t1.1 1 + 1, n0, m0, f) = _
      rw [e1]
    · have hk : k < nd := nd_lt c (by omega)
      rw [if_neg c]
      have due : (t0.2.1 0 k = 0 ∨ nI k = jo) → SF nd (t0.1 1 + 1, n0, m0, f) jo t0 (if (mf_pokes R nd t1 (nI k)).1 = 0 then (0, (mf_pokes R nd t1 (nI k)).2) else mg_sets_3 R nd n0 m0 f jo j (k + 1) (mf_tells R nd (mf_pokes R nd t1 (nI k)).2 (nI k) ((mf_pokes R nd t1 (nI k)).2.1 1 + 1) n0 m0 f)).1 (if (mf_pokes R nd t1 (nI k)).1 = 0 then (0, (mf_pokes R nd t1 (nI k)).2) else mg_sets_3 R nd n0 m0 f jo j (k + 1) (mf_tells R nd (mf_pokes R nd t1 (nI k)).2 (nI k) ((mf_pokes R nd t1 (nI k)).2.1 1 + 1) n0 m0 f)).2 := by
        intro hv
        by_cases cp : t1.1 6 = 0
        · obtain ⟨l1, l2, l3, l4, l5⟩ := lasts_no (R := R) hnd cp
          rw [pokes_no hnd cp, if_pos rfl]
          refine ⟨fun d => ?_, fun q hq => (l3 q (by omega)).trans (h6 q hq), fun q => absurd rfl q, fun _ => ?_, ?_⟩
          · unfold SUP
            rw [l3 2 (by decide), l3 3 (by decide), l3 4 (by decide), l3 5 (by decide)]
            exact ha d
          · unfold HLD
            rw [l2]
            exact hh
          · rw [l2]; exact hz
        · rw [pokes_ok (by omega) cp, if_neg (show ¬ (1 : Int32) = 0 by decide)]
          have hc : (nI k).toNatClampNeg = k := nI_clamp (by omega)
          have es : ∀ d, SUP (mf_tells R nd (si (ti (si t1 6 (dec9 (t1.1 6))) 1 k (t1.2.1 1 k + 1)) 9 (t1.1 9 + 1)) (nI k) (t1.1 1 + 1) n0 m0 f) d = if d = k then (t0.1 1 + 1, n0, m0, f) else SUP t1 d := by
            intro d
            unfold SUP mf_tells
            rw [hc, e1]
            by_cases e : d = k
            · subst e; simp [ti, si, va_up]
            · simp [ti, si, va_up, e]
          refine ih (k + 1) _ (by omega) (by omega) hh ?_ ?_ hz ?_ ?_
          · show _ = t0.2.1 0
            rw [← h0]
            simp [mf_tells, ti, si, va_up]
          · intro q hq
            rw [← h6 q hq]
            simp [mf_tells, ti, si, va_up, show ¬ q = 5 by omega, show ¬ q = 4 by omega, show ¬ q = 3 by omega, show ¬ q = 2 by omega, show ¬ q = 1 by omega]
          · intro d h7 h8 h9
            refine (es d).trans ?_
            by_cases e : d = k
            · rw [if_pos e]
            · rw [if_neg e]; exact hb d (by omega) h8 h9
          · intro d
            by_cases e : d = k
            · exact Or.inr ⟨(es d).trans (if_pos e), by omega, by rw [e]; exact hv⟩
            · exact (ha d).imp (fun q => ((es d).trans (if_neg e)).trans q) (fun q => ⟨((es d).trans (if_neg e)).trans q.1, q.2⟩)
      by_cases c0 : t1.2.1 0 k = 0
      · rw [if_pos c0]
        exact due (Or.inl (by rw [← h0]; exact c0))
      · rw [if_neg c0]
        by_cases cj : nI k = jo
        · rw [if_pos cj]
          exact due (Or.inr cj)
        · rw [if_neg cj]
          refine ih (k + 1) t1 (by omega) (by omega) hh h0 h6 hz (fun d h7 h8 h9 => ?_) ha
          by_cases e : d = k
          · subst e
            rcases h9 with q | q
            · exact absurd (by rw [h0]; exact q) c0
            · exact absurd q cj
          · exact hb d (by omega) h8 h9
theorem sets_sup {n0 m0 f jo : Int32} (hnd : nd ≤ 10) : SF nd (t.1 1 + 1, n0, m0, f) jo t (mf_sets R nd t n0 m0 f jo).1 (mf_sets R nd t n0 m0 f jo).2 := by
  unfold mf_sets
  exact sets_sup_l hnd t (nd + 1) 0 t (by omega) (by omega) rfl rfl (fun _ _ => rfl) rfl (fun d h => by omega) (fun d => Or.inl rfl)
end SIMH
