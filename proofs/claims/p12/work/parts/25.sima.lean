/-! ===== BOTH SIDES: the relation of the class's state and the reference's (its control, not its blocks) ===== -/
section SIMA
variable {R nd : Nat} {g : GS} {t : MS}
/-- the power's counter, one write later -/
def dec9 (x : Int32) : Int32 := if x ≤ 0 then x else x - 1
theorem gsi_same (k : Nat) : gsi g k (g.1 k) = g := by
  have e : va_up g.1 k (g.1 k) = g.1 := by
    funext j
    unfold va_up
    split
    · rename_i h; rw [h]
    · rfl
  unfold gsi
  rw [e]
theorem spend_ok (hu : g.1 1 = 1) (h0 : ¬ g.1 2 = 0) : gf_4_spendWrite R nd g = (1, gsi (gsi g 2 (dec9 (g.1 2))) 5 (g.1 5 + 1)) := by
  unfold gf_4_spendWrite dec9
  rw [if_neg (by rw [hu]; decide), if_neg h0]
  split
  · rw [gsi_same]
  · rfl
theorem spend_no (hu : g.1 1 = 1) (h0 : g.1 2 = 0) : gf_4_spendWrite R nd g = (0, gsi (gsi (gsi g 1 0) 7 (g.1 7 + 1)) 2 (-1)) := by
  unfold gf_4_spendWrite
  rw [if_neg (by rw [hu]; decide), if_pos h0]
theorem spend_dn (hu : g.1 1 = 0) : gf_4_spendWrite R nd g = (0, g) := by
  unfold gf_4_spendWrite
  rw [if_pos hu]
theorem lasts_ok (h0 : ¬ t.1 6 = 0) : mf_lasts R nd t = (1, si t 6 (dec9 (t.1 6))) := by
  unfold mf_lasts dec9
  rw [if_neg h0]
  split
  · rw [Int32.sub_zero]
  · rfl
theorem pokes_ok {d : Nat} (hd : d < 10) (h0 : ¬ t.1 6 = 0) : mf_pokes R nd t (nI d) = (1, si (ti (si t 6 (dec9 (t.1 6))) 1 d (t.2.1 1 d + 1)) 9 (t.1 9 + 1)) := by
  unfold mf_pokes
  rw [lasts_ok h0, if_neg (show ¬ (1 : Int32) = 0 by decide), nI_clamp (by omega)]
  rfl
/-- the states that a reference takes when the power goes -/
theorem mg_lasts_st : ∀ (j k : Nat) (t1 : MS), k ≤ nd → nd < k + j → nd ≤ 10 → ∀ d, (mg_lasts_57 R nd j k t1).2.2.1 0 d = if k ≤ d ∧ d < nd ∧ ¬ t1.2.1 0 d = 1 then (if t1.2.1 2 d ≤ 0 then 2 else 0) else t1.2.1 0 d := by
  intro j
  induction j with
  | zero => intro k t1 h1 h2; omega
  | succ j ih =>
    intro k t1 h1 h2 h3 d
    rw [mg_lasts_57]
    by_cases c : nI nd ≤ nI k
    · have hk : nd ≤ k := ndle c (by omega)
      rw [if_pos c, if_neg (by omega)]
    · have hk : k < nd := nd_lt c (by omega)
      rw [if_neg c]
      by_cases c1 : t1.2.1 0 k = 1
      · rw [if_pos c1, ih (k + 1) t1 (by omega) (by omega) h3 d]
        by_cases e : d = k
        · subst e
          rw [if_neg (by omega), if_neg (by intro q; exact q.2.2 c1)]
        · by_cases q : k ≤ d ∧ d < nd ∧ ¬ t1.2.1 0 d = 1
          · rw [if_pos q, if_pos ⟨by omega, q.2⟩]
          · rw [if_neg q, if_neg (by intro z; exact q ⟨by omega, z.2⟩)]
      · rw [if_neg c1]
        by_cases c2 : t1.2.1 2 k ≤ 0
        · rw [if_pos c2, ih (k + 1) _ (by omega) (by omega) h3 d]
          by_cases e : d = k
          · subst e
            rw [if_neg (by omega), if_pos ⟨by omega, by omega, c1⟩, if_pos c2]
            simp [ti, va_up]
          · have e1 : (ti t1 0 k 2).2.1 0 d = t1.2.1 0 d := by simp [ti, va_up, e]
            have e2 : (ti t1 0 k 2).2.1 2 d = t1.2.1 2 d := by simp [ti, va_up]
            rw [e1, e2]
            by_cases q : k ≤ d ∧ d < nd ∧ ¬ t1.2.1 0 d = 1
            · rw [if_pos q, if_pos ⟨by omega, q.2⟩]
            · rw [if_neg q, if_neg (by intro z; exact q ⟨by omega, z.2⟩)]
        · rw [if_neg c2, ih (k + 1) _ (by omega) (by omega) h3 d]
          by_cases e : d = k
          · subst e
            rw [if_neg (by omega), if_pos ⟨by omega, by omega, c1⟩, if_neg c2]
            simp [ti, va_up]
          · have e1 : (ti t1 0 k 0).2.1 0 d = t1.2.1 0 d := by simp [ti, va_up, e]
            have e2 : (ti t1 0 k 0).2.1 2 d = t1.2.1 2 d := by simp [ti, va_up]
            rw [e1, e2]
            by_cases q : k ≤ d ∧ d < nd ∧ ¬ t1.2.1 0 d = 1
            · rw [if_pos q, if_pos ⟨by omega, q.2⟩]
            · rw [if_neg q, if_neg (by intro z; exact q ⟨by omega, z.2⟩)]
theorem lasts_no (hnd : nd ≤ 10) (h0 : t.1 6 = 0) : (mf_lasts R nd t).1 = 0 ∧ (mf_lasts R nd t).2.1 = (si (si (si (si t 6 (-1)) 5 0) 11 (t.1 11 + 1)) 7 0).1 ∧ (∀ q, ¬ q = 0 → (mf_lasts R nd t).2.2.1 q = t.2.1 q) ∧ (mf_lasts R nd t).2.2.2 = t.2.2 ∧ ∀ d, d < nd → (mf_lasts R nd t).2.2.1 0 d = if t.2.1 0 d = 1 then 1 else if t.2.1 2 d ≤ 0 then 2 else 0 := by
  unfold mf_lasts
  rw [if_pos h0]
  obtain ⟨k1, k2, k3⟩ := mg_lasts_keep (R := R) (nd := nd) (nd + 1) 0 (si (si (si (si t 6 (-1)) 5 0) 11 (t.1 11 + 1)) 7 0)
  refine ⟨mg_lasts_b _ _ _, k1, fun q hq => k2 q hq, k3, fun d hd => ?_⟩
  rw [mg_lasts_st (nd + 1) 0 _ (by omega) (by omega) hnd d]
  show (if 0 ≤ d ∧ d < nd ∧ ¬ t.2.1 0 d = 1 then (if t.2.1 2 d ≤ 0 then (2 : Int32) else 0) else t.2.1 0 d) = _
  by_cases c : t.2.1 0 d = 1
  · rw [if_pos c, if_neg (by intro q; exact q.2.2 c), c]
  · rw [if_neg c, if_pos ⟨by omega, hd, c⟩]
theorem pokes_no (hnd : nd ≤ 10) {x : Int32} (h0 : t.1 6 = 0) : mf_pokes R nd t x = (0, (mf_lasts R nd t).2) := by
  unfold mf_pokes
  rw [if_pos (lasts_no hnd h0).1]
/-! the relation -/
def sE (g : GS) (t : MS) : Prop := g.1 2 = t.1 6 ∧ g.1 4 = t.1 8 ∧ g.1 5 = t.1 9 ∧ g.1 6 = t.1 10 ∧ g.1 7 = t.1 11 ∧ g.1 8 = t.1 1 ∧ g.1 9 = t.1 2 ∧ g.1 10 = t.1 3 ∧ g.1 11 = t.1 4
/-- a disk's sectors and writes -/
def dE (g : GS) (t : MS) (d : Nat) : Prop := g.2.1 0 d = t.2.1 2 d ∧ g.2.1 1 d = t.2.1 3 d ∧ g.2.1 2 d = t.2.1 4 d ∧ g.2.1 3 d = t.2.1 5 d ∧ g.2.1 5 d = t.2.1 6 d ∧ (¬ t.2.1 6 d = 0 → g.2.1 4 d = t.2.1 7 d) ∧ g.2.1 9 d = t.2.1 9 d ∧ g.2.1 11 d = t.2.1 1 d
/-- its condition: failed, live, rebuilding -/
def stE (g : GS) (t : MS) (d : Nat) : Prop := (t.2.1 0 d = 1 ∧ g.2.1 10 d = 1) ∨ (t.2.1 0 d = 0 ∧ g.2.1 10 d = 0 ∧ 0 < t.2.1 2 d) ∨ (t.2.1 0 d = 2 ∧ g.2.1 10 d = 0 ∧ t.2.1 2 d = 0)
/-- within a call; `al` is the disk (if any) that is joining: its condition may lag behind -/
def MM (al nd : Nat) (g : GS) (t : MS) : Prop := sE g t ∧ (∀ d, d < nd → dE g t d) ∧ (∀ d, d < nd → ¬ d = al → stE g t d) ∧ ∀ d, d < nd → d = al → g.2.1 10 d = 0 ∧ ¬ t.2.1 0 d = 1 ∧ (t.2.1 2 d = 0 ∨ 0 < t.2.1 2 d)
theorem pos0 {x : Int32} (h : 0 < x) : ¬ x = 0 := fun e => by rw [e] at h; exact absurd h (by decide)
theorem live_d {d : Nat} (h : dE g t d) (s : stE g t d) : gf_1_isLive_d R nd g d = 0 ↔ ¬ t.2.1 0 d = 0 := by
  unfold gf_1_isLive_d
  rw [h.1]
  rcases s with ⟨s1, s2⟩ | ⟨s1, s2, s3⟩ | ⟨s1, s2, s3⟩
  · rw [s1, s2, if_neg (show ¬ (1 : Int32) = 0 by decide)]
    exact ⟨fun _ => by decide, fun _ => rfl⟩
  · rw [s1, s2, if_pos rfl, if_neg (pos0 s3)]
    exact ⟨fun h => absurd h (by decide), fun h => absurd rfl h⟩
  · rw [s1, s2, if_pos rfl, if_pos s3]
    exact ⟨fun _ => by decide, fun _ => rfl⟩
theorem live_k {k : Nat} (hk : k < nd) (hnd : nd ≤ 10) (h : dE g t k) (s : stE g t k) : gf_4_isLive R nd g (nI k) = 0 ↔ ¬ t.2.1 0 k = 0 := by
  unfold gf_4_isLive
  rw [if_neg (by rw [gp_there0]; intro q; rcases q with q | q; exact absurd q (Int32.not_lt.mpr (nI_0 ▸ nI_le (a := 0) (by omega) (by omega))); exact absurd q (nI_ge hk (by omega))), nI_clamp (by omega)]
  by_cases c : gf_1_isLive_d R nd g k = 0
  · rw [if_pos c]
    exact ⟨fun _ => (live_d h s).mp c, fun _ => rfl⟩
  · rw [if_neg c]
    exact ⟨fun q => absurd q (by decide), fun q => absurd ((live_d h s).mpr q) c⟩
theorem rebg_d {d : Nat} (h : dE g t d) (s : stE g t d) : gf_1_isRebuilding_d R nd g d = 0 ↔ ¬ t.2.1 0 d = 2 := by
  unfold gf_1_isRebuilding_d
  rw [h.1]
  rcases s with ⟨s1, s2⟩ | ⟨s1, s2, s3⟩ | ⟨s1, s2, s3⟩
  · rw [s1, s2, if_neg (show ¬ (1 : Int32) = 0 by decide)]
    exact ⟨fun _ => by decide, fun _ => rfl⟩
  · rw [s1, s2, if_pos rfl, if_neg (pos0 s3)]
    exact ⟨fun _ => by decide, fun _ => rfl⟩
  · rw [s1, s2, if_pos rfl, if_pos s3]
    exact ⟨fun h => absurd h (by decide), fun h => absurd rfl h⟩
end SIMA
