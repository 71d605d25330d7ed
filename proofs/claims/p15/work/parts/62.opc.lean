/-! ===== THE BLOCKS: open, whole ===== -/
section OH
variable {R nd b : Nat} {g : GS} {t : MS}
theorem kv_oS {a0 : Int32} : KV t (oS R nd a0 t).2 := by
  unfold oS
  by_cases c : (mf_sets R nd t (t.1 2) (t.1 3) (t.1 4) (-1)).1 = 0
  · rw [if_pos c]
    exact kv_sets (R := R) (nd := nd)
  · rw [if_neg c]
    exact (kv_sets (R := R) (nd := nd)).tr (kv_si (by decide))
theorem kv_oM {a4 : Int32} : KV t (oM R nd a4 t).2 := by
  unfold oM
  by_cases c : (mf_moves R nd t).1 = 0
  · rw [if_pos c]
    exact kv_moves (R := R) (nd := nd)
  · rw [if_neg c]
    exact (kv_moves (R := R) (nd := nd)).tr (kv_si (by decide))
theorem kv_oB {a4 : Int32} : KV t (oB R nd a4 t).2 := by
  unfold oB
  by_cases c : (mf_backups R nd t).1 = 0
  · rw [if_pos c]
    exact kv_backups (R := R) (nd := nd)
  · rw [if_neg c]
    exact (kv_backups (R := R) (nd := nd)).tr kv_oM
theorem kv_oT {a0 a4 hbk : Int32} : KV t (oT R nd a0 a4 t hbk).2 := by
  unfold oT
  by_cases c : mf_isReshaped R nd t = 0
  · rw [if_pos c]
    exact kv_oS
  · rw [if_neg c]
    by_cases c1 : hbk = 0
    · rw [if_pos c1]
      by_cases c2 : mf_isCritical R nd t = 0
      · rw [if_pos c2]
        exact kv_oM
      · rw [if_neg c2]
        exact kv_oS
    · rw [if_neg c1]
      exact kv_oB
theorem UPE.up0 {G : GS} {T : MS} (hR : R ≤ 48) (h : UPE R nd G T) (h3 : G.1 3 = 0) : UPD R nd G T := by
  obtain ⟨S, N, M, F, X, bd, hl, hx⟩ := h
  exact ⟨S, N, M, F, X, bd, congrArg Prod.fst hl, congrArg (fun x : T4 => x.2.1) hl, congrArg (fun x : T4 => x.2.2.1) hl, congrArg (fun x : T4 => x.2.2.2) hl, hx, fun d r _ _ _ z4 z5 => absurd (show G.1 3 ≤ nI r by rw [h3]; exact nI_pos' (by omega)) z4⟩
theorem rb0_lev_l : ∀ (j k : Nat) (g1 : GS), ¬ g1.1 8 = 0 → RB0 nd g1 → RB0 nd (gg_4_levelSupers_2 R nd j k g1) := by
  intro j
  induction j with
  | zero => intro k g1 _ h; exact h
  | succ j ih =>
    intro k g1 h8 h
    have sp : RB0 nd (gf_4_spendWrite R nd g1).2 := h.cg spend_arr
    have s8 : ¬ (gf_4_spendWrite R nd g1).2.1 8 = 0 := by rw [spend_keep 8 (by decide) (by decide) (by decide) (by decide)]; exact h8
    have eT : gf_1_takeSuper__d_h R nd (gf_4_spendWrite R nd g1).2 k = gf_1_takeSuper_d R nd (gf_4_spendWrite R nd g1).2 k ((gf_4_spendWrite R nd g1).2.1 8) ((gf_4_spendWrite R nd g1).2.1 9) ((gf_4_spendWrite R nd g1).2.1 10) ((gf_4_spendWrite R nd g1).2.1 11) := rfl
    have ts : RB0 nd (gf_1_takeSuper__d_h R nd (gf_4_spendWrite R nd g1).2 k) := by rw [eT]; exact rb0_ts s8 sp
    have t8 : ¬ (gf_1_takeSuper__d_h R nd (gf_4_spendWrite R nd g1).2 k).1 8 = 0 := by rw [eT, takeSuper_eq.1]; exact s8
    rw [gg_4_levelSupers_2]
    repeat' split
    all_goals first
      | exact h
      | exact ih _ _ h8 h
      | exact ih _ _ s8 sp
      | exact ih _ _ t8 ts
theorem LEVD {i : Nat} {G1 : GS} {T : MS} (hn : 3 ≤ nd ∧ nd ≤ 10) (hb : b ≤ 1000) (hB : BI R nd b g t) (hw : DND R nd g t) (hi : lvD nd g i) (hmax : ∀ d, lvD nd g d → g.2.1 0 d ≤ g.2.1 0 i) (e2 : G1.2 = g.2) (hu : G1.1 1 = 1) (hl : hl4 G1 = sup4 g i) (hT : KV t T) :
    lvD nd (gf_4_levelSupers R nd G1) = lvD nd g ∧ (((gf_4_levelSupers R nd G1).1 1 = 1 ∧ ∃ S N M F, bd4 S N M F ∧ hl4 G1 = q4 S N M F ∧ (∀ d, lvD nd g d → sup4 (gf_4_levelSupers R nd G1) d = q4 S N M F) ∧ DAU R (lvD nd g) (fam nd g) S N M F (gf_4_levelSupers R nd G1) T) ∨ ((gf_4_levelSupers R nd G1).1 1 = 0 ∧ DND R nd (gf_4_levelSupers R nd G1) T)) := by
  have eL1 : lvD nd G1 = lvD nd g := lvD_eq (by rw [e2]) (by rw [e2])
  have eS1 : ∀ d, sup4 G1 d = sup4 g d := fun d => by unfold sup4; rw [e2]
  have lt : ∀ d, lvD nd g d → d < nd ∧ t.2.1 0 d = 0 := fun d z => (lvT hB.1 hn.2).mp z
  have same : ∀ d e, lvD nd g d → lvD nd g e → g.2.1 0 d = g.2.1 0 e → sup4 g d = sup4 g e := by
    intro d e z1 z2 z3
    have d1 := lt d z1
    have d2 := lt e z2
    rw [sup_eq hB.1 d1.1, sup_eq hB.1 d2.1]
    exact hB.2.2.2.1 d e d1.1 d2.1 d1.2 d2.2 (by rw [← (hB.1.2.1 d d1.1).1, ← (hB.1.2.1 e d2.1).1]; exact z3)
  have hFR : ∀ {S N M F : Nat}, bd4 S N M F → sup4 g i = q4 S N M F → F < R := by
    intro S N M F bd z
    have d1 := lt i hi
    obtain ⟨S', N', M', F', e0, -, -, -, -, -, r6, -⟩ := hB.2.2.1 i d1.1 d1.2
    rw [sup_eq hB.1 d1.1, e0] at z
    have := congrArg (fun x : T4 => x.2.2.2) z
    obtain ⟨-, -, -, -, -, f48, -⟩ := bd
    have e : F' < 48 ∨ 48 ≤ F' := Nat.lt_or_ge _ _
    rcases Nat.lt_or_ge F' (2 ^ 31) with q | q
    · have := nI_inj q (by omega) this
      omega
    · exact Nat.lt_of_lt_of_le (show F < F' by omega) (Nat.le_of_lt r6)
  have e8 : G1.1 8 = g.2.1 0 i := congrArg Prod.fst hl
  have e9 : G1.1 9 = g.2.1 1 i := congrArg (fun x : T4 => x.2.1) hl
  have e10 : G1.1 10 = g.2.1 2 i := congrArg (fun x : T4 => x.2.2.1) hl
  have e11 : G1.1 11 = g.2.1 3 i := congrArg (fun x : T4 => x.2.2.2) hl
  obtain ⟨k, hk, hS, hup⟩ := ef_lev_l (R := R) (g := G1) (sq := g.2.1 0 i) (n0 := g.2.1 1 i) (m0 := g.2.1 2 i) (f := g.2.1 3 i) hn.2 (fun d z1 z2 => by
    rw [eL1] at z1
    rw [eS1]
    rw [e2] at z2
    exact same d i z1 hi z2) (nd + 1) 0 G1 (by omega) (by omega) hu e8 e9 e10 e11 SE.z
  have hS : SE (lvD nd G1) (sup4 g i) G1 (gf_4_levelSupers R nd G1) k := hS
  have hup : ((gf_4_levelSupers R nd G1).1 1 = 1 ∧ k = nd) ∨ (gf_4_levelSupers R nd G1).1 1 = 0 := hup
  generalize gf_4_levelSupers R nd G1 = L at hS hup ⊢
  have eL : lvD nd L = lvD nd g := by
    rw [← eL1]
    funext d
    apply propext
    by_cases c : d < k ∧ lvD nd G1 d
    · refine ⟨fun _ => c.2, fun _ => ⟨c.2.1, by rw [hS.2.2.1 10 (by decide) (by decide)]; exact c.2.2.1, ?_⟩⟩
      rw [show L.2.1 0 d = g.2.1 0 i from congrArg Prod.fst (hS.1 d c.1 c.2)]
      exact hi.2.2
    · have e := hS.2.1 d c
      unfold lvD
      rw [show L.2.1 0 d = G1.2.1 0 d from congrArg Prod.fst e, hS.2.2.1 10 (by decide) (by decide)]
  have ag : AG g t L T := ⟨fun q x1 x2 => by rw [hS.2.2.1 q x1 (by omega), e2], fun q _ _ => by rw [hS.2.2.2, e2], hT.2.1, hT.1⟩
  have sL : ∀ d, lvD nd g d → sup4 L d = sup4 g i ∨ sup4 L d = sup4 g d := by
    intro d z
    by_cases c : d < k ∧ lvD nd G1 d
    · exact Or.inl (hS.1 d c.1 c.2)
    · exact Or.inr ((hS.2.1 d c).trans (eS1 d))
  refine ⟨eL, ?_⟩
  rcases hw with ⟨S, N, M, F, bd, h1, h2⟩ | ⟨S, N, M, F, X, bd, ⟨d0, h1, h1'⟩, h2, h3, h4⟩
  · have ei := h1 i hi
    have sup : ∀ d, lvD nd g d → sup4 L d = q4 S N M F := fun d z => (sL d z).elim (fun w => w.trans ei) (fun w => w.trans (h1 d z))
    rcases hup with ⟨u1, -⟩ | u1
    · exact Or.inl ⟨u1, S, N, M, F, bd, hl.trans ei, sup, ag.dau h2⟩
    · refine Or.inr ⟨u1, Or.inl ?_⟩
      rw [fam_eq eL, eL]
      exact ⟨S, N, M, F, bd, sup, ag.dau h2⟩
  · obtain ⟨s1, s2, n3, nM, m10, f48, nF⟩ := id bd
    have ei : sup4 g i = q4 S N M F := by
      obtain ⟨s, q1, q2⟩ := h2 i hi
      have q3 := hmax d0 h1
      have q4 : g.2.1 0 d0 = nI S := congrArg Prod.fst h1'
      rw [q4, q2] at q3
      have : S ≤ s := ndle q3 (by omega)
      have e : s = S := by omega
      subst e
      rw [← h1']
      exact same i d0 hi h1 (q2.trans q4.symm)
    rcases hup with ⟨u1, u2⟩ | u1
    · refine Or.inl ⟨u1, S, N, M, F, bd, hl.trans ei, fun d z => ?_, ag.dau (h3.up.dau s2 (hFR bd ei))⟩
      have := hS.1 d (by have := z.1; omega) (by rw [eL1]; exact z)
      exact this.trans ei
    · refine Or.inr ⟨u1, Or.inr ⟨S, N, M, F, X, bd, ⟨d0, by rw [eL]; exact h1, (sL d0 h1).elim (fun w => w.trans ei) (fun w => w.trans h1')⟩, fun d z => ?_, by rw [eL]; exact ag.clx h3, fun hall e he hsole => ?_⟩⟩
      · rw [eL] at z
        rcases sL d z with w | w
        · exact ⟨S, Nat.le_refl _, congrArg Prod.fst (w.trans ei)⟩
        · obtain ⟨s, q1, q2⟩ := h2 d z
          exact ⟨s, q1, (congrArg Prod.fst w).trans q2⟩
      · rw [eL] at hall hsole ⊢
        have ss : ∀ d, (lvD nd g d ∧ ¬ d = e) → sup4 L d = sup4 g d := fun d z => (sL d z.1).elim (fun w => absurd (w.trans ei) (hsole d z.1 z.2)) id
        exact (h4 hall e he (fun d z1 z2 z3 => hsole d z1 z2 ((ss d ⟨z1, z2⟩).trans z3))).on ss ag
end OH
