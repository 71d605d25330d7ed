/-! ===== BOTH: the geometry, which disk isn't live, as numbers ===== -/
section GEO
variable {R nd : Nat} {g : GS} {t : MS}
theorem gp_places (h : g.1 9 = t.1 2) : gf_4_placeCount R nd g = mf_places R nd t := by unfold gf_4_placeCount mf_places; rw [h]
theorem gp_isPlace0 {x : Int32} : gf_4_isPlace R nd g x = 0 ↔ x < 0 ∨ gf_4_placeCount R nd g ≤ x := by
  unfold gf_4_isPlace
  constructor
  · intro h
    split at h
    · rename_i c; exact Or.inl c
    · split at h
      · rename_i c; exact Or.inr c
      · exact absurd h (by decide)
  · intro h
    rcases h with h | h
    · rw [if_pos h]
    · split <;> first | rfl | rw [if_pos h]
theorem gp_row {N A : Nat} (h2 : 3 ≤ N) (hN : N ≤ 10) (hA : A < 432) : gf_4_rowIn R nd g (nI N) (nI A) = nI (A / (N - 1)) := by
  unfold gf_4_rowIn
  rw [if_pos (show (2 : Int32) ≤ nI N from nI_le (a := 2) (by omega) (by omega)), nI_one, pk_sub (by omega), pk_div (by omega) (by omega) (by omega)]
theorem gp_parity {N r : Nat} (h2 : 3 ≤ N) (hN : N ≤ 10) (hr : r < 432) : gf_4_parityDisk R nd g (nI N) (nI r) = nI (N - 1 - r % N) := by
  have hm : r % N < N := Nat.mod_lt _ (by omega)
  unfold gf_4_parityDisk
  rw [if_neg (show ¬ nI N < (1 : Int32) from Int32.not_lt.mpr (nI_le (a := 1) (by omega) (by omega))), if_pos (show (0 : Int32) ≤ nI r from nI_0 ▸ nI_le (a := 0) (by omega) (by omega)), nI_one, pk_sub (by omega), pk_rem (by omega) (by omega) (by omega), pk_sub (by omega)]
theorem gp_disk {N A : Nat} (h2 : 3 ≤ N) (hN : N ≤ 10) (hA : A < 432) : gf_4_diskIn R nd g (nI N) (nI A) = nI ((N - 1 - A / (N - 1) % N + 1 + A % (N - 1)) % N) := by
  have hq : A / (N - 1) ≤ A := Nat.div_le_self _ _
  have hm : A / (N - 1) % N < N := Nat.mod_lt _ (by omega)
  have hm2 : A % (N - 1) < N - 1 := Nat.mod_lt _ (by omega)
  unfold gf_4_diskIn
  rw [if_pos (show (2 : Int32) ≤ nI N from nI_le (a := 2) (by omega) (by omega)), gp_row h2 hN hA, gp_parity h2 hN (by omega), nI_one, pk_sub (by omega : 1 ≤ N), pk_rem (by omega) (by omega) (by omega), nI_add, nI_add, pk_rem (by omega) (by omega) (by omega)]
/-- the class's first disk that isn't live -/
theorem gg_nl_iff (hnd : nd ≤ 10) : ∀ (j k : Nat), k ≤ nd → nd < k + j → (gg_4_diskNotLive_2 R nd g j k = -1 ↔ ∀ i, k ≤ i → i < nd → ¬ gf_1_isLive_d R nd g i = 0) := by
  intro j
  induction j with
  | zero => intro k h1 h2; omega
  | succ j ih =>
    intro k h1 h2
    rw [gg_4_diskNotLive_2]
    split
    · rename_i c
      have hk : nd ≤ k := ndle c (by omega)
      exact ⟨fun _ i h3 h4 => by omega, fun _ => rfl⟩
    · rename_i c
      have hk : k < nd := nd_lt c (by omega)
      split
      · rename_i c1
        exact ⟨fun h => absurd h (nI_m1 (by omega)), fun h => absurd c1 (h k (Nat.le_refl _) hk)⟩
      · rename_i c1
        rw [ih (k + 1) (by omega) (by omega)]
        refine ⟨fun h i h3 h4 => ?_, fun h i h3 h4 => h i (by omega) h4⟩
        rcases Nat.lt_or_ge k i with q | q
        · exact h i q h4
        · rw [show i = k by omega]; exact c1
theorem gf_nl_iff (hnd : nd ≤ 10) : gf_4_diskNotLive R nd g = -1 ↔ ∀ i, i < nd → ¬ gf_1_isLive_d R nd g i = 0 := by
  unfold gf_4_diskNotLive
  rw [gg_nl_iff hnd (nd + 1) 0 (by omega) (by omega)]
  exact ⟨fun h i hi => h i (by omega) hi, fun h i _ hi => h i hi⟩
theorem gp_there0 {x : Int32} : gf_4_isThere R nd g x = 0 ↔ x < 0 ∨ nI nd ≤ x := by
  unfold gf_4_isThere
  constructor
  · intro h
    split at h
    · rename_i c; exact Or.inl c
    · split at h
      · rename_i c; exact Or.inr c
      · exact absurd h (by decide)
  · intro h
    rcases h with h | h
    · rw [if_pos h]
    · split <;> first | rfl | rw [if_pos h]
end GEO
