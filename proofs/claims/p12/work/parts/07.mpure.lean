/-! ===== THE REFERENCE: what its small methods leave as it was ===== -/
section MKEEP
variable {R nd : Nat}
theorem mg_lasts_keep : ∀ (j k : Nat) (t1 : MS), (mg_lasts_57 R nd j k t1).2.1 = t1.1 ∧ (∀ q, q ≠ 0 → (mg_lasts_57 R nd j k t1).2.2.1 q = t1.2.1 q) ∧ (mg_lasts_57 R nd j k t1).2.2.2 = t1.2.2 := by
  intro j
  induction j with
  | zero => intro k t1; exact ⟨rfl, fun _ _ => rfl, rfl⟩
  | succ j ih =>
    intro k t1
    rw [mg_lasts_57]
    split
    · exact ⟨rfl, fun _ _ => rfl, rfl⟩
    · split
      · exact ih _ _
      · split
        · obtain ⟨h1, h2, h3⟩ := ih (k + 1) (ti t1 0 k 2)
          exact ⟨h1, fun q hq => by rw [h2 q hq]; simp [ti, va_up, hq], h3⟩
        · obtain ⟨h1, h2, h3⟩ := ih (k + 1) (ti t1 0 k 0)
          exact ⟨h1, fun q hq => by rw [h2 q hq]; simp [ti, va_up, hq], h3⟩
/-- the scalars that a write to a disk may change -/
abbrev sPok (i : Nat) : Prop := i = 5 ∨ i = 6 ∨ i = 7 ∨ i = 9 ∨ i = 11
/-- what stays: scalars but those of P, arrays but those of A, longs -/
def Keep (P A : Nat → Prop) (t u : MS) : Prop := (∀ i, ¬ P i → u.1 i = t.1 i) ∧ (∀ q, ¬ A q → u.2.1 q = t.2.1 q) ∧ u.2.2 = t.2.2
theorem Keep.rf {P A : Nat → Prop} {t : MS} : Keep P A t t := ⟨fun _ _ => rfl, fun _ _ => rfl, rfl⟩
theorem Keep.tr {P A : Nat → Prop} {t u v : MS} (h : Keep P A t u) (g : Keep P A u v) : Keep P A t v := ⟨fun i hi => (g.1 i hi).trans (h.1 i hi), fun q hq => (g.2.1 q hq).trans (h.2.1 q hq), g.2.2.trans h.2.2⟩
theorem Keep.mo {P A P2 A2 : Nat → Prop} {t u : MS} (h : Keep P A t u) (hp : ∀ i, P i → P2 i) (ha : ∀ q, A q → A2 q) : Keep P2 A2 t u := ⟨fun i hi => h.1 i (fun q => hi (hp i q)), fun q hq => h.2.1 q (fun z => hq (ha q z)), h.2.2⟩
theorem Keep.si {P A : Nat → Prop} {t : MS} {k : Nat} {v : Int32} (hk : P k) : Keep P A t (si t k v) := ⟨fun i hi => va_up_ne _ _ (fun e => hi (e ▸ hk)), fun _ _ => rfl, rfl⟩
theorem Keep.ti {P A : Nat → Prop} {t : MS} {k i : Nat} {v : Int32} (hk : A k) : Keep P A t (ti t k i v) := ⟨fun _ _ => rfl, fun q hq => va_up_ne _ _ (fun e => hq (e ▸ hk)), rfl⟩
abbrev aLas (q : Nat) : Prop := q = 0
abbrev aPok (q : Nat) : Prop := q = 0 ∨ q = 1
theorem mf_lasts_keep (t : MS) : Keep sPok aPok t (mf_lasts R nd t).2 := by
  unfold mf_lasts
  split
  · obtain ⟨h1, h2, h3⟩ := mg_lasts_keep (R := R) (nd := nd) (nd + 1) 0 (si (si (si (si t 6 (-1)) 5 0) 11 ((t.1 11) + 1)) 7 0)
    refine ⟨fun i hi => ?_, fun q hq => ?_, h3⟩
    · rw [h1]
      simp only [sPok, not_or] at hi
      simp [si, va_up, hi]
    · rw [h2 q (fun e => hq (Or.inl e))]; rfl
  · split
    · exact Keep.si (by first | decide | simp)
    · exact Keep.si (by first | decide | simp)
theorem mf_pokes_keep (t : MS) (d : Int32) : Keep sPok aPok t (mf_pokes R nd t d).2 := by
  unfold mf_pokes
  split
  · exact mf_lasts_keep t
  · exact (mf_lasts_keep t).tr ((Keep.ti (by first | decide | simp)).tr (Keep.si (by first | decide | simp)))
theorem mf_block_keep (t : MS) (d row : Int32) : Keep sPok aPok t (mf_block R nd t d row).2 := by
  unfold mf_block
  repeat' split
  all_goals first | exact Keep.rf | exact mf_pokes_keep t d
theorem mf_tells_keep (t : MS) (d q n0 m0 f : Int32) : Keep (fun _ => False) (fun q => q = 2 ∨ q = 3 ∨ q = 4 ∨ q = 5) t (mf_tells R nd t d q n0 m0 f) := by
  unfold mf_tells
  exact (Keep.ti (by first | decide | simp)).tr ((Keep.ti (by first | decide | simp)).tr ((Keep.ti (by first | decide | simp)).tr (Keep.ti (by first | decide | simp))))
theorem mg_backups_keep : ∀ (j k : Nat) (t1 : MS), Keep sPok (fun q => q = 0 ∨ q = 1 ∨ q = 9) t1 (mg_backups_2 R nd j k t1).2 := by
  intro j
  induction j with
  | zero => intro k t1; exact Keep.rf
  | succ j ih =>
    intro k t1
    rw [mg_backups_2]
    split
    · exact Keep.rf
    · split
      · split
        · exact (mf_pokes_keep _ _).mo (fun _ h => h) (by intro q h; rcases h with h | h <;> simp [h])
        · exact ((mf_pokes_keep _ _).mo (fun _ h => h) (by intro q h; rcases h with h | h <;> simp [h])).tr ((Keep.ti (by first | decide | simp)).tr (ih _ _))
      · exact ih _ _
theorem mf_backups_keep (t : MS) : Keep sPok (fun q => q = 0 ∨ q = 1 ∨ q = 9) t (mf_backups R nd t).2 := by
  unfold mf_backups
  exact mg_backups_keep _ _ _
/-! answers of booleans -/
theorem mg_lasts_b : ∀ (j k : Nat) (t1 : MS), (mg_lasts_57 R nd j k t1).1 = 0 := by
  intro j
  induction j with
  | zero => intro k t1; rfl
  | succ j ih =>
    intro k t1
    rw [mg_lasts_57]
    repeat' split
    all_goals first | rfl | exact ih _ _
theorem mb_lasts (t : MS) : (mf_lasts R nd t).1 = 0 ∨ (mf_lasts R nd t).1 = 1 := by
  unfold mf_lasts
  repeat' split
  all_goals first | exact Or.inl (mg_lasts_b _ _ _) | exact Or.inr rfl
theorem mb_pokes (t : MS) (d : Int32) : (mf_pokes R nd t d).1 = 0 ∨ (mf_pokes R nd t d).1 = 1 := by
  unfold mf_pokes
  split
  · exact Or.inl rfl
  · exact Or.inr rfl
theorem mb_isReshaped (t : MS) : mf_isReshaped R nd t = 0 ∨ mf_isReshaped R nd t = 1 := by
  unfold mf_isReshaped
  split
  · exact Or.inl rfl
  · exact Or.inr rfl
/-! indices -/
theorem nd10 {nd : Nat} (h : ¬ nI nd = 10) (hn : nd ≤ 10) : nd < 10 := by
  rcases Nat.lt_or_ge nd 10 with q | q
  · exact q
  · exact absurd (by rw [show nd = 10 by omega]; rfl) h
theorem ix_of {x : Int32} {nd N : Nat} (h0 : ¬ x < 0) (h1 : ¬ nI nd ≤ x) (h : nd ≤ N) (hN : N < 2 ^ 31) : vp_in x N := by
  rcases pk_ix x (n := nd) (by omega) with q | q | ⟨j, hj, rfl⟩
  · exact absurd q h0
  · exact absurd q h1
  · exact vp_in_nI (by omega) hN
theorem ix_lt {x : Int32} {nd N : Nat} (h0 : ¬ x < 0) (h1 : x < nI nd) (h : nd ≤ N) (hN : N < 2 ^ 31) : vp_in x N := ix_of h0 (Int32.not_le.mpr h1) h hN
theorem mg_notLive_ix (t : MS) (hnd : nd ≤ 10) : ∀ (j k : Nat) (out : Int32), k + j ≤ nd + 1 → (out = -1 ∨ vp_in out 10) → mg_notLive_4 R nd t j k out = -1 ∨ vp_in (mg_notLive_4 R nd t j k out) 10 ∨ j = 0 ∨ k + j < nd + 1 := by
  intro j
  induction j with
  | zero => intro k out _ _; exact Or.inr (Or.inr (Or.inl rfl))
  | succ j ih =>
    intro k out hk ho
    rcases Nat.lt_or_ge (k + (j + 1)) (nd + 1) with q | q
    · exact Or.inr (Or.inr (Or.inr q))
    rw [mg_notLive_4]
    split
    · rcases ho with h | h
      · exact Or.inl h
      · exact Or.inr (Or.inl h)
    · rename_i c
      have hk9 : k < nd := nd_lt c (by omega)
      split
      · rcases ih (k + 1) out (by omega) ho with h | h | h | h
        · exact Or.inl h
        · exact Or.inr (Or.inl h)
        · omega
        · omega
      · rcases ih (k + 1) (nI k) (by omega) (Or.inr (vp_in_nI (by omega) (by decide))) with h | h | h | h
        · exact Or.inl h
        · exact Or.inr (Or.inl h)
        · omega
        · omega
theorem mf_notLive_ix {t : MS} (hnd : nd ≤ 10) (h : ¬ mf_notLive R nd t = -1) : vp_in (mf_notLive R nd t) 10 := by
  unfold mf_notLive at h ⊢
  rcases mg_notLive_ix (R := R) t hnd (nd + 1) 0 (-1) (by omega) (Or.inl rfl) with q | q | q | q
  · exact absurd q h
  · exact q
  · omega
  · omega
end MKEEP
