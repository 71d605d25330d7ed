/-! ===== THE BLOCKS: what the class's functions read ===== -/
section CV
variable {R nd : Nat} {g : GS}
def lvD (nd : Nat) (g : GS) (d : Nat) : Prop := d < nd ∧ g.2.1 10 d = 0 ∧ ¬ g.2.1 0 d = 0
theorem lvd_iff {d : Nat} : gf_1_isLive_d R nd g d = 0 ↔ ¬ (g.2.1 10 d = 0 ∧ ¬ g.2.1 0 d = 0) := by
  unfold gf_1_isLive_d
  by_cases c : g.2.1 10 d = 0
  · rw [if_pos c]
    by_cases c2 : g.2.1 0 d = 0
    · rw [if_pos c2]
      exact ⟨fun _ q => q.2 c2, fun _ => rfl⟩
    · rw [if_neg c2]
      exact ⟨fun q => absurd q (by decide), fun q => absurd ⟨c, c2⟩ q⟩
  · rw [if_neg c]
    exact ⟨fun _ q => c q.1, fun _ => rfl⟩
theorem there_k {k : Nat} (hk : k < nd) (hnd : nd ≤ 10) : ¬ gf_4_isThere R nd g (nI k) = 0 := by
  rw [gp_there0]
  intro q
  rcases q with q | q
  · exact nI_pos (by omega) q
  · exact nI_ge hk (by omega) q
theorem lvk_iff {k : Nat} (hk : k < nd) (hnd : nd ≤ 10) : gf_4_isLive R nd g (nI k) = 0 ↔ ¬ lvD nd g k := by
  unfold gf_4_isLive
  rw [if_neg (there_k hk hnd), nI_clamp (by omega)]
  by_cases c : gf_1_isLive_d R nd g k = 0
  · rw [if_pos c]
    exact ⟨fun _ q => lvd_iff.mp c q.2, fun _ => rfl⟩
  · rw [if_neg c]
    refine ⟨fun q => absurd q (by decide), fun q => absurd (lvd_iff.mpr (fun z => q ⟨hk, z⟩)) c⟩
theorem blk {d r : Nat} (hr : r < R) (hR : R ≤ 48) : gf_1_blockAt_d R nd g d (nI r) = g.2.2 4 d r := by
  unfold gf_1_blockAt_d
  rw [if_neg (nI_pos (by omega)), if_neg (nI_ge hr (by omega)), nI_clamp (by omega)]
theorem exl_l {w r o : Nat} {lo : Int32} (hw : w ≤ 10) (hr : r < R) (hR : R ≤ 48) (hlo : ∀ k, k < 11 → (nI k = lo ↔ k = o)) : ∀ (j k : Nat), k ≤ w → w < k + j → gg_4_exclusiveOr_6 R nd g (nI w) (nI r) lo j k (xl (fun d => g.2.2 4 d r) o k) = xl (fun d => g.2.2 4 d r) o w := by
  intro j
  induction j with
  | zero => intro k h1 h2; omega
  | succ j ih =>
    intro k h1 h2
    rw [gg_4_exclusiveOr_6]
    by_cases c : nI w ≤ nI k
    · have hk : w ≤ k := ndle c (by omega)
      rw [if_pos c, show k = w by omega]
    · have hk : k < w := nd_lt c (by omega)
      rw [if_neg c, if_neg (show ¬ (10 : Int32) ≤ nI k from nI_ge (b := 10) (by omega) (by omega)), blk hr hR]
      by_cases e : nI k = lo
      · have e2 := (hlo k (by omega)).mp e
        have := ih (k + 1) (by omega) (by omega)
        rw [xl, if_pos e2] at this
        rw [if_pos e]
        exact this
      · have e2 : ¬ k = o := fun q => e ((hlo k (by omega)).mpr q)
        have := ih (k + 1) (by omega) (by omega)
        rw [xl, if_neg e2] at this
        rw [if_neg e]
        exact this
theorem exl_m1 {w r : Nat} (hw : w ≤ 10) (hr : r < R) (hR : R ≤ 48) : gf_4_exclusiveOr R nd g (nI w) (nI r) (-1) = xr (fun d => g.2.2 4 d r) w := by
  rw [← xl_out (o := 99) w (by omega)]
  exact exl_l (o := 99) hw hr hR (fun k hk => ⟨fun q => absurd q (nI_m1 (by omega)), fun q => by omega⟩) 11 0 (by omega) (by omega)
theorem exl_o {w r o : Nat} (hw : w ≤ 10) (hr : r < R) (hR : R ≤ 48) (ho : o < 11) : gf_4_exclusiveOr R nd g (nI w) (nI r) (nI o) = xl (fun d => g.2.2 4 d r) o w :=
  exl_l (o := o) hw hr hR (fun k hk => nI_eq (by omega) (by omega)) 11 0 (by omega) (by omega)
/-- at most one disk isn't live -/
def one9 (nd : Nat) (g : GS) : Prop := ∀ i j, i < nd → j < nd → ¬ lvD nd g i → ¬ lvD nd g j → i = j
theorem blkOf {w r d : Nat} {X : Nat → Int64} (hw : w ≤ nd) (hnd : nd ≤ 10) (hr : r < R) (hR : R ≤ 48) (hd : d < w) (h1 : ∀ e, e < w → lvD nd g e → g.2.2 4 e r = X e) (h0 : xr X w = 0) (ho : one9 nd g) : gf_4_blockOf R nd g (nI w) (nI r) (nI d) = X d := by
  unfold gf_4_blockOf
  by_cases c : lvD nd g d
  · rw [if_neg (fun q => (lvk_iff (by omega) hnd).mp q c), nI_clamp (by omega), blk hr hR]
    exact h1 d hd c
  · rw [if_pos ((lvk_iff (by omega) hnd).mpr c), exl_o (by omega) hr hR (by omega)]
    have e : xl (fun d => g.2.2 4 d r) d w = xl X d w := xl_congr w (fun e he hne => by
      refine h1 e he (Classical.byContradiction (fun q => hne (ho e d (by omega) (by omega) q c)))
    )
    rw [e]
    exact x_eq ((xl_in (f := X) w hd).trans h0)
theorem parw_l {w r x y : Nat} {v : Int64} {X : Nat → Int64} (hw : w ≤ nd) (hnd : nd ≤ 10) (hr : r < R) (hR : R ≤ 48) (hx : x < w) (hy : y < w) (h1 : ∀ e, e < w → lvD nd g e → g.2.2 4 e r = X e) (h0 : xr X w = 0) (ho : one9 nd g) : ∀ (j k : Nat), k ≤ w → w < k + j → gg_4_parityWith_14 R nd g (nI w) (nI r) (nI x) v j k (v ^^^ xp X y x k) (nI y) = v ^^^ xp X y x w := by
  intro j
  induction j with
  | zero => intro k h1 h2; omega
  | succ j ih =>
    intro k k1 k2
    rw [gg_4_parityWith_14]
    by_cases c : nI w ≤ nI k
    · have hk : w ≤ k := ndle c (by omega)
      rw [if_pos c, show k = w by omega]
    · have hk : k < w := nd_lt c (by omega)
      have := ih (k + 1) (by omega) (by omega)
      rw [xp] at this
      rw [if_neg c]
      by_cases e : k = y
      · rw [if_pos e] at this
        rw [if_pos (by rw [e])]
        exact this
      · rw [if_neg e] at this
        rw [if_neg (fun q => e ((nI_eq (by omega) (by omega)).mp q))]
        by_cases e2 : k = x
        · rw [if_pos e2] at this
          rw [if_pos (by rw [e2])]
          exact this
        · rw [if_neg e2] at this
          rw [if_neg (fun q => e2 ((nI_eq (by omega) (by omega)).mp q)), blkOf hw hnd hr hR hk h1 h0 ho, Int64.xor_assoc]
          exact this
theorem parw {w r x : Nat} {v : Int64} {X : Nat → Int64} (hw3 : 3 ≤ w) (hw : w ≤ nd) (hnd : nd ≤ 10) (hr : r < R) (hR : R ≤ 48) (hx : x < w) (h1 : ∀ e, e < w → lvD nd g e → g.2.2 4 e r = X e) (h0 : xr X w = 0) (ho : one9 nd g) : gf_4_parityWith R nd g (nI w) (nI r) (nI x) v = v ^^^ xp X (prN w r) x w := by
  unfold gf_4_parityWith
  rw [gp_parity hw3 (by omega) (by omega), nI_clamp (by omega)]
  have := parw_l (v := v) (y := prN w r) hw hnd hr hR hx (pr_lt (by omega)) h1 h0 ho (w + 1) 0 (by omega) (by omega)
  rw [xp, Int64.xor_zero] at this
  exact this
theorem valOf {N M F A : Nat} {X : Nat → Nat → Int64} (h9 : g.1 9 = nI N) (h10 : g.1 10 = nI M) (h11 : g.1 11 = nI F) (hN3 : 3 ≤ N) (hN : N ≤ M) (hM : M ≤ nd) (hnd : nd ≤ 10) (hF : F < 48) (hA : A < 432) (hrR : rowN (widN N M F A) A < R) (hR : R ≤ 48)
    (h1 : ∀ e, e < widN N M F A → lvD nd g e → g.2.2 4 e (rowN (widN N M F A) A) = X e (rowN (widN N M F A) A)) (h0 : xr (fun d => X d (rowN (widN N M F A) A)) (widN N M F A) = 0) (ho : one9 nd g) : gf_4_valueOf R nd g (nI A) = X (dskN (widN N M F A) A) (rowN (widN N M F A) A) := by
  obtain ⟨w3, wM⟩ := wid_le (F := F) (A := A) hN3 hN
  unfold gf_4_valueOf
  rw [gw_nI h9 h10 h11 (by omega) hN hN3 hF hA, gp_row w3 (by omega) hA, gp_disk w3 (by omega) hA]
  exact blkOf (X := fun d => X d (rowN (widN N M F A) A)) (by omega) hnd hrR hR (dsk_lt w3) h1 h0 ho
/-! gathering a row's values -/
theorem gath_l {M F : Nat} {rv : Nat → Int64} (hM : g.1 10 = nI M) (hM3 : 3 ≤ M) (hM10 : M ≤ 10) (hrv : ∀ k, k < M - 1 → ∀ g1 : GS, g1.1 = g.1 → g1.2.1 = g.2.1 → (∀ q, ¬ q = 1 → g1.2.2 q = g.2.2 q) → (if gf_4_isPlace R nd g1 (nI (F * (M - 1)) + nI k) = 0 then 0 else gf_4_valueOf R nd g1 (nI (F * (M - 1)) + nI k)) = rv k) :
    ∀ (j k : Nat) (g1 : GS), k ≤ M - 1 → M - 1 < k + j → g1.1 = g.1 → g1.2.1 = g.2.1 → (∀ q, ¬ q = 1 → g1.2.2 q = g.2.2 q) → (∀ i, i < k → g1.2.2 1 0 i = rv i) → (∀ q, ¬ q = 1 → (gg_4_gatherRowValues_20 R nd j k (nI (F * (M - 1))) g1).2.2 q = g.2.2 q) ∧ ∀ i, i < M - 1 → (gg_4_gatherRowValues_20 R nd j k (nI (F * (M - 1))) g1).2.2 1 0 i = rv i := by
  intro j
  induction j with
  | zero => intro k g1 h1 h2; omega
  | succ j ih =>
    intro k g1 h1 h2 e1 e2 e3 e4
    have hv := fun hk => hrv k hk g1 e1 e2 e3
    rw [gg_4_gatherRowValues_20, e1, hM, nI_one, pk_sub (by omega)]
    by_cases c : nI (M - 1) ≤ nI k
    · have hk : M - 1 ≤ k := ndle c (by omega)
      rw [if_pos c]
      exact ⟨e3, fun i hi => e4 i (by omega)⟩
    · have hk : k < M - 1 := nd_lt c (by omega)
      rw [if_neg c, if_neg (nI_ge (by omega) (by omega))]
      have hv := hv hk
      have up : ∀ x : Int64, x = rv k → (∀ q, ¬ q = 1 → (gg_4_gatherRowValues_20 R nd j (k + 1) (nI (F * (M - 1))) (gli g1 1 0 k x)).2.2 q = g.2.2 q) ∧ ∀ i, i < M - 1 → (gg_4_gatherRowValues_20 R nd j (k + 1) (nI (F * (M - 1))) (gli g1 1 0 k x)).2.2 1 0 i = rv i := by
        intro x hx
        refine ih (k + 1) (gli g1 1 0 k x) (by omega) (by omega) e1 e2 (fun q hq => ?_) (fun i hi => ?_)
        · rw [← e3 q hq]
          simp [gli, va_up, hq]
        · by_cases e : i = k
          · subst e
            simp [gli, va_up, hx]
          · rw [← e4 i (by omega)]
            simp [gli, va_up, e]
      by_cases cp : gf_4_isPlace R nd g1 (nI (F * (M - 1)) + nI k) = 0
      · rw [if_pos cp] at hv ⊢
        exact up 0 hv
      · rw [if_neg cp] at hv ⊢
        exact up _ hv
end CV
