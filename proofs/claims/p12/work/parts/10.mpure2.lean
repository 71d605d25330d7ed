/-! ===== THE REFERENCE: which disks; what an opening rests on ===== -/
section MP2
variable {R nd : Nat}
theorem mg_isRebuilding_iff (t : MS) (hnd : nd ≤ 10) : ∀ (j k : Nat) (is1 : Int32), k ≤ nd → nd < k + j → (mg_isRebuilding_4 R nd t j k is1 = 0 ↔ is1 = 0 ∧ ∀ i, k ≤ i → i < nd → ¬ t.2.1 0 i = 2) := by
  intro j
  induction j with
  | zero => intro k is1 h1 h2; omega
  | succ j ih =>
    intro k is1 h1 h2
    rw [mg_isRebuilding_4]
    split
    · rename_i c
      have hk : nd ≤ k := by
        rcases Nat.lt_or_ge k nd with q | q
        · exact absurd c (nI_ge q (by omega))
        · exact q
      exact ⟨fun h => ⟨h, fun i h3 h4 => by omega⟩, fun h => h.1⟩
    · rename_i c
      have hk : k < nd := nd_lt c (by omega)
      have key : ∀ x : Int32, (mg_isRebuilding_4 R nd t j (k + 1) x = 0 ↔ x = 0 ∧ ∀ i, k + 1 ≤ i → i < nd → ¬ t.2.1 0 i = 2) := fun x => ih (k + 1) x (by omega) (by omega)
      split
      · rename_i c1
        split
        · rename_i c2
          rw [key]
          refine ⟨fun h => absurd h.1 (by decide), fun h => absurd c2 (h.2 k (Nat.le_refl _) hk)⟩
        · rename_i c2
          rw [key]
          refine ⟨fun h => ⟨c1, fun i h3 h4 => ?_⟩, fun h => ⟨rfl, fun i h3 h4 => h.2 i (by omega) h4⟩⟩
          rcases Nat.lt_or_ge k i with q | q
          · exact h.2 i q h4
          · rw [show i = k by omega]; exact c2
      · rename_i c1
        rw [key]
        exact ⟨fun h => absurd h.1 (by decide), fun h => absurd h.1 c1⟩
theorem mf_isRebuilding_iff {t : MS} (hnd : nd ≤ 10) : mf_isRebuilding R nd t = 0 ↔ ∀ i, i < nd → ¬ t.2.1 0 i = 2 := by
  unfold mf_isRebuilding
  rw [mg_isRebuilding_iff t hnd (nd + 1) 0 0 (by omega) (by omega)]
  exact ⟨fun h i hi => h.2 i (by omega) hi, fun h => ⟨rfl, fun i _ hi => h i hi⟩⟩
theorem nI_m1 {k : Nat} (h : k < 2 ^ 31) : ¬ nI k = -1 := by
  intro e
  have h1 := nI_toInt h
  rw [e] at h1
  have h2 : (-1 : Int32).toInt = -1 := by decide
  omega
/-- notLive: the last disk that isn't live -/
theorem mg_notLive_iff (t : MS) (hnd : nd ≤ 10) : ∀ (j k : Nat) (out : Int32), k ≤ nd → nd < k + j → (mg_notLive_4 R nd t j k out = -1 ↔ out = -1 ∧ ∀ i, k ≤ i → i < nd → t.2.1 0 i = 0) := by
  intro j
  induction j with
  | zero => intro k out h1 h2; omega
  | succ j ih =>
    intro k out h1 h2
    rw [mg_notLive_4]
    split
    · rename_i c
      have hk : nd ≤ k := by
        rcases Nat.lt_or_ge k nd with q | q
        · exact absurd c (nI_ge q (by omega))
        · exact q
      exact ⟨fun h => ⟨h, fun i h3 h4 => by omega⟩, fun h => h.1⟩
    · rename_i c
      have hk : k < nd := nd_lt c (by omega)
      have key : ∀ x : Int32, (mg_notLive_4 R nd t j (k + 1) x = -1 ↔ x = -1 ∧ ∀ i, k + 1 ≤ i → i < nd → t.2.1 0 i = 0) := fun x => ih (k + 1) x (by omega) (by omega)
      split
      · rename_i c1
        rw [key]
        refine ⟨fun h => ⟨h.1, fun i h3 h4 => ?_⟩, fun h => ⟨h.1, fun i h3 h4 => h.2 i (by omega) h4⟩⟩
        rcases Nat.lt_or_ge k i with q | q
        · exact h.2 i q h4
        · rw [show i = k by omega]; exact c1
      · rename_i c1
        rw [key]
        exact ⟨fun h => absurd h.1 (nI_m1 (by omega)), fun h => absurd (h.2 k (Nat.le_refl _) hk) c1⟩
theorem mf_notLive_iff {t : MS} (hnd : nd ≤ 10) : mf_notLive R nd t = -1 ↔ ∀ i, i < nd → t.2.1 0 i = 0 := by
  unfold mf_notLive
  rw [mg_notLive_iff t hnd (nd + 1) 0 (-1) (by omega) (by omega)]
  exact ⟨fun h i hi => h.2 i (by omega) hi, fun h => ⟨rfl, fun i _ hi => h i hi⟩⟩
theorem mf_rebuilding_nl {t : MS} (hnd : nd ≤ 10) (h : ¬ mf_isRebuilding R nd t = 0) : ¬ mf_notLive R nd t = -1 := by
  intro e
  rw [mf_notLive_iff hnd] at e
  refine h ((mf_isRebuilding_iff hnd).mpr fun i hi => ?_)
  rw [e i hi]
  decide
theorem ndle {k nd : Nat} (h : nI nd ≤ nI k) (hn : nd < 2 ^ 31) : nd ≤ k := by
  rcases Nat.lt_or_ge k nd with q | q
  · exact absurd h (nI_ge q hn)
  · exact q
theorem tbo {x : Int32} {N : Nat} (h : ∀ i, i ≤ N → ¬ x = nI i) (hN : N < 2 ^ 30) : x.toInt < 0 ∨ (N : Int) < x.toInt := by
  rcases pk_ix x (n := N + 1) (by omega) with q | q | ⟨j, hj, e⟩
  · left
    have := Int32.lt_iff_toInt_lt.mp q
    simpa using this
  · right
    have := Int32.le_iff_toInt_le.mp q
    rw [nI_toInt (by omega)] at this
    omega
  · exact absurd e (h j (by omega))
/-- a super that says a valid geometry -/
def SV (t : MS) (i : Nat) : Prop := ∃ N M : Nat, t.2.1 3 i = nI N ∧ t.2.1 4 i = nI M ∧ 3 ≤ N ∧ N ≤ 10 ∧ 3 ≤ M ∧ M ≤ 10
/-- the search for the super that holds -/
def Bst (nd : Nat) (t : MS) (k : Nat) (best : Int32) : Prop := (best = -1 ∧ ∀ i, i < k → ¬ t.2.1 0 i = 0) ∨ ∃ i, i < nd ∧ best = nI i ∧ t.2.1 0 i = 0
theorem Bst.ix {t : MS} {k : Nat} {best : Int32} (h : Bst nd t k best) (hb : ¬ best = -1) (hnd : nd ≤ 10) : vp_in best 10 := by
  rcases h with h | ⟨i, hi, rfl, -⟩
  · exact absurd h.1 hb
  · exact vp_in_nI (by omega) (by decide)
theorem Bst.go {t : MS} {k : Nat} {best : Int32} (h : Bst nd t k best) (hb : ¬ t.2.1 0 k = 0 ∨ ¬ best = -1) : Bst nd t (k + 1) best := by
  rcases h with h | h
  · refine Or.inl ⟨h.1, fun i hi => ?_⟩
    rcases Nat.lt_or_ge i k with q | q
    · exact h.2 i q
    · rw [show i = k by omega]
      exact hb.resolve_right (fun z => z h.1)
  · exact Or.inr h
theorem Bst.fin {t : MS} {k : Nat} {best : Int32} (h : Bst nd t k best) (hk : nd ≤ k) (hl : ∃ i, i < nd ∧ t.2.1 0 i = 0) : ∃ i, i < nd ∧ best = nI i ∧ t.2.1 0 i = 0 := by
  rcases h with h | h
  · obtain ⟨i, hi, e⟩ := hl
    exact absurd e (h.2 i (by omega))
  · exact h
theorem Bst.fix {t : MS} {k : Nat} {best : Int32} (h : Bst nd t k best) (hk : nd ≤ k) (hl : ∃ i, i < nd ∧ t.2.1 0 i = 0) (hnd : nd ≤ 10) : vp_in best 10 := by
  obtain ⟨i, hi, rfl, -⟩ := h.fin hk hl
  exact vp_in_nI (by omega) (by decide)
/-- what the rest of an opening rests on -/
def OI (nd : Nat) (t : MS) : Prop := GV t ∧ ∀ i, i < nd → vp_in (t.2.1 8 i) 432
theorem OI_0 {t : MS} {k : Nat} {best x y : Int32} (h : Bst nd t k best) (hk : nd ≤ k) (hl : ∃ i, i < nd ∧ t.2.1 0 i = 0) (hnd : nd ≤ 10) (hS : ∀ i, i < nd → t.2.1 0 i = 0 → SV t i) (hJ : ∀ i, i < nd → vp_in (t.2.1 8 i) 432) :
    OI nd (si (si (si (si t 1 x) 2 (t.2.1 3 best.toNatClampNeg)) 3 (t.2.1 4 best.toNatClampNeg)) 4 y) := by
  obtain ⟨i, hi, rfl, hv⟩ := h.fin hk hl
  rw [nI_clamp (by omega)]
  obtain ⟨N, M, a, b, r⟩ := hS i hi hv
  exact ⟨⟨N, M, a, b, r⟩, hJ⟩
theorem OI_keep {t u : MS} {P A : Nat → Prop} (h : Keep P A t u) (h2 : ¬ P 2) (h3 : ¬ P 3) (h8 : ¬ A 8) (g : OI nd t) : OI nd u := ⟨GV_of (h.1 2 h2) (h.1 3 h3) g.1, fun i hi => by rw [h.2.1 8 h8]; exact g.2 i hi⟩
/-- the search for the journal -/
def Jst (nd : Nat) (jn : Int32) : Prop := jn = -1 ∨ ∃ i, i < nd ∧ jn = nI i
theorem Jst.ix {jn : Int32} (h : Jst nd jn) (hb : ¬ jn = -1) (hnd : nd ≤ 10) : vp_in jn 10 := by
  rcases h with h | ⟨i, hi, rfl⟩
  · exact absurd h hb
  · exact vp_in_nI (by omega) (by decide)
theorem Jst.pl {t : MS} {jn : Int32} (h : Jst nd jn) (hb : ¬ jn = -1) (hnd : nd ≤ 10) (g : OI nd t) : vp_in (t.2.1 8 jn.toNatClampNeg) 432 := by
  rcases h with h | ⟨i, hi, rfl⟩
  · exact absurd h hb
  · rw [nI_clamp (by omega)]
    exact g.2 i hi
theorem mg_journaled_s {q a : Int32} {v : Int64} : ∀ (j k : Nat) (many : Int32) (t1 : MS) (i : Nat), ¬ sPok i → (mg_journaled_6 R nd q a v j k many t1).2.1 i = t1.1 i := by
  intro j
  induction j with
  | zero => intro k many t1 i hi; rfl
  | succ j ih =>
    intro k many t1 i hi
    rw [mg_journaled_6]
    repeat' split
    all_goals first
      | rfl
      | exact ih _ _ _ _ hi
      | exact (mf_pokes_keep _ _).1 i hi
      | exact (ih _ _ _ _ hi).trans ((mf_pokes_keep _ _).1 i hi)
      | exact (mf_block_keep _ _ _).1 i hi
      | exact ((mf_block_keep _ _ _).1 i hi).trans ((mf_block_keep _ _ _).1 i hi)
theorem mf_journaled_s {t : MS} {q a : Int32} {v : Int64} (i : Nat) (hi : ¬ sPok i) : (mf_journaled R nd t q a v).2.1 i = t.1 i := by
  unfold mf_journaled
  exact mg_journaled_s _ _ _ _ i hi
end MP2
