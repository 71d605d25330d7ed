/-! ===== the relation under each write to a disk; the class when its power is gone ===== -/
section SIMB
variable {R nd : Nat} {g : GS} {t : MS}
/-- the power has gone: as the call left it -/
theorem MM_no {al : Nat} (hnd : nd ≤ 10) (h : MM al nd g t) (hu : g.1 1 = 1) (h0 : t.1 6 = 0) : MM nd nd (gf_4_spendWrite R nd g).2 (mf_lasts R nd t).2 ∧ (gf_4_spendWrite R nd g).1 = 0 ∧ (mf_lasts R nd t).1 = 0 ∧ (gf_4_spendWrite R nd g).2.1 1 = 0 ∧ (mf_lasts R nd t).2.1 5 = 0 ∧ (mf_lasts R nd t).2.1 7 = 0 := by
  obtain ⟨⟨s1, s2, s3, s4, s5, s6, s7, s8, s9⟩, hd, hs, ha⟩ := h
  obtain ⟨l1, l2, l3, l4, l5⟩ := lasts_no (R := R) hnd h0
  rw [spend_no hu (s1.trans h0)]
  refine ⟨⟨?_, fun d hd9 => ?_, fun d hd9 _ => ?_, fun d h1 h2 => by omega⟩, rfl, l1, rfl, ?_⟩
  · unfold sE
    rw [l2]
    simp [gsi, si, va_up, s2, s3, s4, s5, s6, s7, s8, s9]
  · obtain ⟨a1, a2, a3, a4, a5, a6, a7, a8⟩ := hd d hd9
    unfold dE
    rw [l3 1 (by decide), l3 2 (by decide), l3 3 (by decide), l3 4 (by decide), l3 5 (by decide), l3 6 (by decide), l3 7 (by decide), l3 9 (by decide)]
    exact ⟨a1, a2, a3, a4, a5, a6, a7, a8⟩
  · unfold stE
    rw [l5 d hd9, l3 2 (by decide)]
    show _ ∨ _
    have key : ¬ t.2.1 0 d = 1 → g.2.1 10 d = 0 → (t.2.1 2 d = 0 ∨ 0 < t.2.1 2 d) → (((if t.2.1 0 d = 1 then (1 : Int32) else if t.2.1 2 d ≤ 0 then 2 else 0) = 1 ∧ g.2.1 10 d = 1) ∨ ((if t.2.1 0 d = 1 then (1 : Int32) else if t.2.1 2 d ≤ 0 then 2 else 0) = 0 ∧ g.2.1 10 d = 0 ∧ 0 < t.2.1 2 d) ∨ ((if t.2.1 0 d = 1 then (1 : Int32) else if t.2.1 2 d ≤ 0 then 2 else 0) = 2 ∧ g.2.1 10 d = 0 ∧ t.2.1 2 d = 0)) := by
      intro h1 h2 h3
      rw [if_neg h1]
      rcases h3 with q | q
      · rw [q, if_pos (by decide)]
        exact Or.inr (Or.inr ⟨rfl, h2, rfl⟩)
      · rw [if_neg (Int32.not_le.mpr q)]
        exact Or.inr (Or.inl ⟨rfl, h2, q⟩)
    by_cases e : d = al
    · obtain ⟨q1, q2, q3⟩ := ha d hd9 e
      exact key q2 q1 q3
    · rcases hs d hd9 e with ⟨q1, q2⟩ | ⟨q1, q2, q3⟩ | ⟨q1, q2, q3⟩
      · rw [if_pos q1]
        exact Or.inl ⟨rfl, q2⟩
      · exact key (by rw [q1]; decide) q2 (Or.inr q3)
      · exact key (by rw [q1]; decide) q2 (Or.inl q3)
  · rw [l2]
    simp [si, va_up]
/-! the class without power changes nothing -/
theorem dn_wb {d0 row : Int32} {v : Int64} (hu : g.1 1 = 0) : gf_4_writeBlock R nd g d0 row v = g := by
  unfold gf_4_writeBlock
  rw [spend_dn hu, if_pos rfl]
  repeat' split
  all_goals rfl
theorem dn_carry_l : ∀ (j k : Nat) (told : Int32) (g1 : GS), g1.1 1 = 0 → gg_4_carryOutOrder_4 R nd j k told g1 = g1 := by
  intro j
  induction j with
  | zero => intro k told g1 h; rfl
  | succ j ih =>
    intro k told g1 h
    rw [gg_4_carryOutOrder_4, spend_dn h, dn_wb h, dn_wb h, if_pos rfl]
    repeat' split
    all_goals first | rfl | exact ih _ _ _ h
theorem dn_carry (hu : g.1 1 = 0) : gf_4_carryOutOrder R nd g = g := dn_carry_l _ _ _ _ hu
theorem dn_set_l {n0 m0 f jo : Int32} : ∀ (j k : Nat) (sq : Int32) (g1 : GS), g1.1 1 = 0 → gg_4_setSuper_14 R nd n0 m0 f jo j k sq g1 = g1 := by
  intro j
  induction j with
  | zero => intro k sq g1 h; rfl
  | succ j ih =>
    intro k sq g1 h
    rw [gg_4_setSuper_14, spend_dn h, if_pos h, if_pos rfl]
    repeat' split
    all_goals first | rfl | exact ih _ _ _ h
theorem dn_set {n0 m0 f jo : Int32} (hu : g.1 1 = 0) : gf_4_setSuper R nd g n0 m0 f jo = g := dn_set_l _ _ _ _ hu
theorem dn_bk_l : ∀ (j k : Nat) (g1 : GS), g1.1 1 = 0 → gg_4_writeBackups_2 R nd j k g1 = g1 := by
  intro j
  induction j with
  | zero => intro k g1 h; rfl
  | succ j ih =>
    intro k g1 h
    rw [gg_4_writeBackups_2, spend_dn h, if_pos rfl]
    repeat' split
    all_goals first | rfl | exact ih _ _ h
theorem dn_bk (hu : g.1 1 = 0) : gf_4_writeBackups R nd g = g := dn_bk_l _ _ _ hu
theorem dn_mr_l {row m0 : Int32} : ∀ (j k : Nat) (acc : Int64) (pd : Int32) (g1 : GS), g1.1 1 = 0 → gg_4_writeMovedRow_51 R nd row m0 j k acc pd g1 = g1 := by
  intro j
  induction j with
  | zero => intro k acc pd g1 h; rfl
  | succ j ih =>
    intro k acc pd g1 h
    rw [gg_4_writeMovedRow_51]
    simp only [dn_wb h, ih _ _ _ _ h, ite_self]
theorem dn_mr_a {row m0 : Int32} : ∀ (j k : Nat) (acc : Int64) (pd : Int32) (g1 : GS), g1.1 1 = 0 → gg_4_writeMovedRow_12 R nd row m0 j k acc pd g1 = g1 := by
  intro j
  induction j with
  | zero => intro k acc pd g1 h; rfl
  | succ j ih =>
    intro k acc pd g1 h
    rw [gg_4_writeMovedRow_12]
    simp only [dn_mr_l _ _ _ _ _ h, ih _ _ _ _ h, ite_self]
theorem dn_mr {row m0 : Int32} (hu : g.1 1 = 0) : gf_4_writeMovedRow R nd g row m0 = g := dn_mr_a _ _ _ _ _ hu
theorem dn_move (hu : g.1 1 = 0) : gf_4_moveRow R nd g = g := by
  unfold gf_4_moveRow
  simp only [dn_mr hu, dn_set hu, if_pos hu, ite_self]
end SIMB
