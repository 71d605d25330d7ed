/-! ===== the relation under a block, a super, a journal, a backup ===== -/
section SIMC
variable {R nd : Nat} {g : GS} {t : MS} {U : Int32}
/-- how a part of a call ends: the power lasted, or it went -/
def OC (al nd : Nat) (U : Int32) (G : GS) (r : Int32) (T : MS) : Prop := (r = 1 ∧ G.1 1 = 1 ∧ MM al nd G T ∧ (G.1 3 = T.1 7 ∧ T.1 5 = U)) ∨ (r = 0 ∧ G.1 1 = 0 ∧ (T.1 5 = 0 ∧ T.1 7 = 0) ∧ MM nd nd G T)
/-- a write to disk k that both count -/
theorem MM_tick {al k : Nat} {v : Int32} (hk : k < nd) (h : MM al nd g t) : MM al nd (gdi (gsi (gsi g 2 v) 5 (g.1 5 + 1)) 11 k (g.2.1 11 k + 1)) (si (ti (si t 6 v) 1 k (t.2.1 1 k + 1)) 9 (t.1 9 + 1)) := by
  obtain ⟨⟨s1, s2, s3, s4, s5, s6, s7, s8, s9⟩, hd, hs, ha⟩ := h
  refine ⟨?_, fun d h9 => ?_, fun d h9 e => ?_, fun d h9 e => ?_⟩
  · unfold sE
    simp [gsi, gdi, si, ti, va_up, s2, s3, s4, s5, s6, s7, s8, s9]
  · obtain ⟨a1, a2, a3, a4, a5, a6, a7, a8⟩ := hd d h9
    unfold dE
    by_cases e : d = k
    · subst e
      simp [gsi, gdi, si, ti, va_up, a1, a2, a3, a4, a5, a7, a8]
      exact a6
    · simp [gsi, gdi, si, ti, va_up, a1, a2, a3, a4, a5, a7, a8, e]
      exact a6
  · have q := hs d h9 e
    unfold stE at q ⊢
    simpa [gsi, gdi, si, ti, va_up] using q
  · have q := ha d h9 e
    simpa [gsi, gdi, si, ti, va_up] using q
theorem MM_li {al q d i : Nat} {v : Int64} (h : MM al nd g t) : MM al nd (gli g q d i v) t := h
theorem MM_tl {al q i : Nat} {v : Int64} (h : MM al nd g t) : MM al nd g (tl t q i v) := h
theorem sim_wb {al k r : Nat} {v : Int64} (hnd : nd ≤ 10) (hRR : R ≤ 48) (hk : k < nd) (hka : ¬ k = al) (hr : r < R) (h : MM al nd g t) (hu : g.1 1 = 1) (h3 : g.1 3 = t.1 7 ∧ t.1 5 = U) : OC al nd U (gf_4_writeBlock R nd g (nI k) (nI r) v) (mf_block R nd t (nI k) (nI r)).1 (mf_block R nd t (nI k) (nI r)).2 := by
  have hd := h.2.1 k hk
  have hs := h.2.2.1 k hk hka
  have hc : (nI k).toNatClampNeg = k := nI_clamp (by omega)
  have hcr : (nI r).toNatClampNeg = r := nI_clamp (by omega)
  have hr0 : ¬ nI r < 0 := Int32.not_lt.mpr (nI_0 ▸ nI_le (a := 0) (by omega) (by omega))
  have hrR : ¬ nI R ≤ nI r := nI_ge hr (by omega)
  -- a write that is due
  have due : OC al nd U (if (gf_4_spendWrite R nd g).1 = 0 then (gf_4_spendWrite R nd g).2 else gf_1_takeBlock_d R nd (gf_4_spendWrite R nd g).2 k (nI r) v) (mf_pokes R nd t (nI k)).1 (mf_pokes R nd t (nI k)).2 := by
    by_cases c : t.1 6 = 0
    · obtain ⟨m1, m2, m3, m4, m5⟩ := MM_no (R := R) hnd h hu c
      rw [pokes_no hnd c, if_pos m2]
      exact Or.inr ⟨rfl, m4, m5, m1⟩
    · rw [pokes_ok (by omega) c, spend_ok hu (by rw [h.1.1]; exact c), if_neg (show ¬ (1 : Int32) = 0 by decide)]
      unfold gf_1_takeBlock_d
      rw [if_neg hr0, if_neg hrR, hcr, h.1.1]
      exact Or.inl ⟨rfl, hu, MM_tick (g := gli g 4 k r v) hk h, h3⟩
  have lv := live_k (R := R) hk hnd hd hs
  unfold gf_4_writeBlock mf_block
  rw [hc]
  by_cases c0 : t.2.1 0 k = 0
  · rw [if_pos c0, if_neg (fun q => (lv.mp q) c0)]
    rcases due with ⟨d1, d2, d3, d4⟩ | ⟨d1, d2, d3, d4⟩
    · rw [d1, if_neg (show ¬ (1 : Int32) = 0 by decide)]
      exact Or.inl ⟨rfl, d2, d3, d4⟩
    · rw [d1, if_pos rfl]
      exact Or.inr ⟨rfl, d2, d3, d4⟩
  · rw [if_neg c0, if_pos (lv.mpr c0)]
    have rb : gf_4_isRebuilt R nd g (nI k) (nI r) = 0 ↔ ¬ t.2.1 0 k = 2 ∨ t.1 7 ≤ nI r := by
      unfold gf_4_isRebuilt
      rw [if_neg (by rw [gp_there0]; intro q; rcases q with q | q; exact absurd q (Int32.not_lt.mpr (nI_0 ▸ nI_le (a := 0) (by omega) (by omega))); exact absurd q (nI_ge hk (by omega))), hc, h3.1]
      by_cases c2 : t.2.1 0 k = 2
      · rw [if_neg (fun q => ((rebg_d (R := R) (nd := nd) hd hs).mp q) c2)]
        by_cases c3 : t.1 7 ≤ nI r
        · rw [if_pos c3]
          exact ⟨fun _ => Or.inr c3, fun _ => rfl⟩
        · rw [if_neg c3]
          exact ⟨fun q => absurd q (by decide), fun q => (q.elim (fun z => absurd c2 z) (fun z => absurd z c3))⟩
      · rw [if_pos ((rebg_d (R := R) (nd := nd) hd hs).mpr c2)]
        exact ⟨fun _ => Or.inl c2, fun _ => rfl⟩
    by_cases c2 : t.2.1 0 k = 2
    · rw [if_pos c2]
      by_cases c3 : t.1 7 ≤ nI r
      · rw [if_pos c3, if_pos (rb.mpr (Or.inr c3))]
        exact Or.inl ⟨rfl, hu, h, h3⟩
      · rw [if_neg c3, if_neg (fun q => (rb.mp q).elim (fun z => z c2) (fun z => c3 z))]
        rcases due with ⟨d1, d2, d3, d4⟩ | ⟨d1, d2, d3, d4⟩
        · rw [d1, if_neg (show ¬ (1 : Int32) = 0 by decide)]
          exact Or.inl ⟨rfl, d2, d3, d4⟩
        · rw [d1, if_pos rfl]
          exact Or.inr ⟨rfl, d2, d3, d4⟩
    · rw [if_neg c2, if_pos (rb.mpr (Or.inl c2))]
      exact Or.inl ⟨rfl, hu, h, h3⟩
/-- a super is told -/
theorem MM_super {al k : Nat} {sq n0 m0 f : Int32} (hk : k < nd) (hnd : nd ≤ 10) (hsq : 0 < sq) (hv : k = al ∨ t.2.1 0 k = 0) (h : MM al nd g t) : MM al nd (gdi (gdi (gdi (gdi g 0 k sq) 1 k n0) 2 k m0) 3 k f) (mf_tells R nd t (nI k) sq n0 m0 f) := by
  have hc : (nI k).toNatClampNeg = k := nI_clamp (by omega)
  obtain ⟨hsE, hd, hs, ha⟩ := h
  unfold mf_tells
  rw [hc]
  refine ⟨hsE, fun d h9 => ?_, fun d h9 e => ?_, fun d h9 e => ?_⟩
  · obtain ⟨a1, a2, a3, a4, a5, a6, a7, a8⟩ := hd d h9
    unfold dE
    by_cases e : d = k
    · subst e
      simp [gdi, ti, va_up, a5, a7, a8]
      exact a6
    · simp [gdi, ti, va_up, a1, a2, a3, a4, a5, a7, a8, e]
      exact a6
  · have q := hs d h9 e
    unfold stE at q ⊢
    by_cases e2 : d = k
    · subst e2
      have hl : t.2.1 0 d = 0 := hv.resolve_left e
      rw [hl] at q
      have q2 : g.2.1 10 d = 0 := by
        rcases q with ⟨q1, -⟩ | ⟨-, q2, -⟩ | ⟨q1, -⟩
        · exact absurd q1 (by decide)
        · exact q2
        · exact absurd q1 (by decide)
      refine Or.inr (Or.inl ?_)
      simp [gdi, ti, va_up, hl, q2, hsq]
    · simpa [gdi, ti, va_up, e2] using q
  · obtain ⟨q1, q2, q3⟩ := ha d h9 e
    by_cases e2 : d = k
    · subst e2
      simp [gdi, ti, va_up, q1, q2]
      exact Or.inr hsq
    · simp [gdi, ti, va_up, q1, q2, e2]
      exact q3
end SIMC
