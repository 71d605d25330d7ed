/-! ===== the relation under a WRITE that is carried out, and a row that is moved ===== -/
section SIME
variable {R nd : Nat} {g : GS} {t : MS} {U : Int32}
/-- the WRITE's numbers: the class has them in `order`, the reference works them out of the place a -/
def OJ (R nd r x y : Nat) (q a : Int32) (g : GS) (t : MS) : Prop := g.1 12 = t.1 1 ∧ g.1 13 = q ∧ g.1 14 = nI r ∧ g.1 15 = nI x ∧ g.1 16 = nI y ∧ mf_rowOf R nd t a = nI r ∧ mf_diskOf R nd t a = nI x ∧ mf_parityOf R nd t a = nI y
theorem geo_cong {a : Int32} {t' : MS} (h2 : t'.1 2 = t.1 2) (h3 : t'.1 3 = t.1 3) (h4 : t'.1 4 = t.1 4) : mf_width R nd t' a = mf_width R nd t a ∧ mf_rowOf R nd t' a = mf_rowOf R nd t a ∧ mf_diskOf R nd t' a = mf_diskOf R nd t a ∧ mf_parityOf R nd t' a = mf_parityOf R nd t a := by
  have e : mf_width R nd t' a = mf_width R nd t a := by
    unfold mf_width mf_isByM mf_isReshaped
    rw [h2, h3, h4]
  refine ⟨e, ?_, ?_, ?_⟩
  · unfold mf_rowOf; rw [e]
  · unfold mf_diskOf mf_parityOf mf_rowOf; rw [e]
  · unfold mf_parityOf mf_rowOf; rw [e]
theorem OJ_cong {r x y : Nat} {q a : Int32} {g' : GS} {t' : MS} (hg : ∀ i, 12 ≤ i → g'.1 i = g.1 i) (ht : ∀ i, 1 ≤ i → i ≤ 4 → t'.1 i = t.1 i) (h : OJ R nd r x y q a g t) : OJ R nd r x y q a g' t' := by
  obtain ⟨-, e1, e2, e3⟩ := geo_cong (R := R) (nd := nd) (a := a) (ht 2 (by decide) (by decide)) (ht 3 (by decide) (by decide)) (ht 4 (by decide) (by decide))
  unfold OJ
  rw [hg 12 (by decide), hg 13 (by decide), hg 14 (by decide), hg 15 (by decide), hg 16 (by decide), ht 1 (by decide) (by decide), e1, e2, e3]
  exact h
theorem wb_keep {d0 row : Int32} {v : Int64} (i : Nat) (h1 : ¬ i = 1) (h2 : ¬ i = 2) (h5 : ¬ i = 5) (h7 : ¬ i = 7) : (gf_4_writeBlock R nd g d0 row v).1 i = g.1 i := by
  have e : (gf_4_spendWrite R nd g).2.1 i = g.1 i := by
    unfold gf_4_spendWrite
    repeat' split
    all_goals simp [gsi, va_up, h1, h2, h5, h7]
  unfold gf_4_writeBlock
  repeat' split
  all_goals first | rfl | exact e | (rw [gk_takeBlock]; exact e)
/-- the two blocks -/
theorem sim_2b {r x y : Nat} {q a : Int32} {v : Int64} (hnd : nd ≤ 10) (hRR : R ≤ 48) (hx : x < nd) (hy : y < nd) (hr : r < R) (h : MM nd nd g t) (hu : g.1 1 = 1) (h3 : g.1 3 = t.1 7 ∧ t.1 5 = U) (hO : OJ R nd r x y q a g t) :
    OC nd nd U (gf_4_writeBlock R nd (gf_4_writeBlock R nd g (g.1 15) (g.1 14) (g.2.2 0 0 0)) ((gf_4_writeBlock R nd g (g.1 15) (g.1 14) (g.2.2 0 0 0)).1 16) ((gf_4_writeBlock R nd g (g.1 15) (g.1 14) (g.2.2 0 0 0)).1 14) ((gf_4_writeBlock R nd g (g.1 15) (g.1 14) (g.2.2 0 0 0)).2.2 0 0 1))
      (if (mf_block R nd t (mf_diskOf R nd t a) (mf_rowOf R nd t a)).1 = 0 then ((0 : Int32), (mf_block R nd t (mf_diskOf R nd t a) (mf_rowOf R nd t a)).2) else if (mf_block R nd (mf_block R nd t (mf_diskOf R nd t a) (mf_rowOf R nd t a)).2 (mf_parityOf R nd (mf_block R nd t (mf_diskOf R nd t a) (mf_rowOf R nd t a)).2 a) (mf_rowOf R nd (mf_block R nd t (mf_diskOf R nd t a) (mf_rowOf R nd t a)).2 a)).1 = 0 then (0, (mf_block R nd (mf_block R nd t (mf_diskOf R nd t a) (mf_rowOf R nd t a)).2 (mf_parityOf R nd (mf_block R nd t (mf_diskOf R nd t a) (mf_rowOf R nd t a)).2 a) (mf_rowOf R nd (mf_block R nd t (mf_diskOf R nd t a) (mf_rowOf R nd t a)).2 a)).2) else (1, tl (mf_block R nd (mf_block R nd t (mf_diskOf R nd t a) (mf_rowOf R nd t a)).2 (mf_parityOf R nd (mf_block R nd t (mf_diskOf R nd t a) (mf_rowOf R nd t a)).2 a) (mf_rowOf R nd (mf_block R nd t (mf_diskOf R nd t a) (mf_rowOf R nd t a)).2 a)).2 1 a.toNatClampNeg v)).1
      (if (mf_block R nd t (mf_diskOf R nd t a) (mf_rowOf R nd t a)).1 = 0 then ((0 : Int32), (mf_block R nd t (mf_diskOf R nd t a) (mf_rowOf R nd t a)).2) else if (mf_block R nd (mf_block R nd t (mf_diskOf R nd t a) (mf_rowOf R nd t a)).2 (mf_parityOf R nd (mf_block R nd t (mf_diskOf R nd t a) (mf_rowOf R nd t a)).2 a) (mf_rowOf R nd (mf_block R nd t (mf_diskOf R nd t a) (mf_rowOf R nd t a)).2 a)).1 = 0 then (0, (mf_block R nd (mf_block R nd t (mf_diskOf R nd t a) (mf_rowOf R nd t a)).2 (mf_parityOf R nd (mf_block R nd t (mf_diskOf R nd t a) (mf_rowOf R nd t a)).2 a) (mf_rowOf R nd (mf_block R nd t (mf_diskOf R nd t a) (mf_rowOf R nd t a)).2 a)).2) else (1, tl (mf_block R nd (mf_block R nd t (mf_diskOf R nd t a) (mf_rowOf R nd t a)).2 (mf_parityOf R nd (mf_block R nd t (mf_diskOf R nd t a) (mf_rowOf R nd t a)).2 a) (mf_rowOf R nd (mf_block R nd t (mf_diskOf R nd t a) (mf_rowOf R nd t a)).2 a)).2 1 a.toNatClampNeg v)).2 := by
  obtain ⟨o1, o2, o3, o4, o5, o6, o7, o8⟩ := hO
  have hk := mf_block_keep (R := R) (nd := nd) t (nI x) (nI r)
  obtain ⟨-, f1, f2, f3⟩ := geo_cong (R := R) (nd := nd) (a := a) (t := t) (t' := (mf_block R nd t (nI x) (nI r)).2) (hk.1 2 (by decide)) (hk.1 3 (by decide)) (hk.1 4 (by decide))
  rw [wb_keep 16 (by decide) (by decide) (by decide) (by decide), wb_keep 14 (by decide) (by decide) (by decide) (by decide), o3, o4, o5, o6, o7, f1, f3, o6, o8]
  rcases sim_wb (v := g.2.2 0 0 0) hnd hRR hx (by omega) hr h hu h3 with ⟨d1, d2, d3, d4⟩ | ⟨d1, d2, d3, d4⟩
  · rw [d1, if_neg (show ¬ (1 : Int32) = 0 by decide)]
    rcases sim_wb (v := (gf_4_writeBlock R nd g (nI x) (nI r) (g.2.2 0 0 0)).2.2 0 0 1) hnd hRR hy (by omega) hr d3 d2 d4 with ⟨b1, b2, b3, b4⟩ | ⟨b1, b2, b3, b4⟩
    · rw [b1, if_neg (show ¬ (1 : Int32) = 0 by decide)]
      exact Or.inl ⟨rfl, b2, b3, b4⟩
    · rw [b1, if_pos rfl]
      exact Or.inr ⟨rfl, b2, b3, b4⟩
  · rw [d1, if_pos rfl, dn_wb d2]
    exact Or.inr ⟨rfl, d2, d3, d4⟩
theorem sim_jl {r x y : Nat} {q a : Int32} {v : Int64} (hnd : nd ≤ 10) (hRR : R ≤ 48) (hx : x < nd) (hy : y < nd) (hr : r < R) : ∀ (j k : Nat) (told : Int32) (g1 : GS) (t1 : MS), k ≤ nd → nd < k + j → MM nd nd g1 t1 → g1.1 1 = 1 → (g1.1 3 = t1.1 7 ∧ t1.1 5 = U) → OJ R nd r x y q a g1 t1 →
    OC nd nd U (gg_4_carryOutOrder_4 R nd j k told g1) (mg_journaled_6 R nd q a v j k told t1).1 (mg_journaled_6 R nd q a v j k told t1).2 := by
  intro j
  induction j with
  | zero => intro k told g1 t1 h1 h2; omega
  | succ j ih =>
    intro k told g1 t1 h1 h2 h hu h3 hO
    rw [gg_4_carryOutOrder_4, mg_journaled_6]
    by_cases c : nI nd ≤ nI k
    · rw [if_pos c, if_pos c]
      exact sim_2b hnd hRR hx hy hr h hu h3 hO
    · have hk : k < nd := nd_lt c (by omega)
      rw [if_neg c, if_neg c]
      by_cases c2 : 2 ≤ told
      · rw [if_pos c2, if_pos c2]
        exact sim_2b hnd hRR hx hy hr h hu h3 hO
      · rw [if_neg c2, if_neg c2]
        have lv := live_k (R := R) hk hnd (h.2.1 k hk) (h.2.2.1 k hk (by omega))
        by_cases c0 : t1.2.1 0 k = 0
        · rw [if_pos c0, if_neg (fun q => (lv.mp q) c0)]
          by_cases cp : t1.1 6 = 0
          · obtain ⟨m1, m2, m3, m4, m5⟩ := MM_no (R := R) hnd h hu cp
            rw [pokes_no hnd cp, if_pos m2, if_pos rfl, dn_carry_l _ _ _ _ m4]
            exact Or.inr ⟨rfl, m4, m5, m1⟩
          · rw [pokes_ok (by omega) cp, spend_ok hu (by rw [h.1.1]; exact cp), if_neg (show ¬ (1 : Int32) = 0 by decide), if_neg (show ¬ (1 : Int32) = 0 by decide), h.1.1]
            obtain ⟨e1, e2⟩ := takeJournal_eq (R := R) (nd := nd) (g := gsi (gsi g1 2 (dec9 (t1.1 6))) 5 (g1.1 5 + 1)) (k := k)
            have hm := MM_jr (q := g1.1 13) (s := g1.1 12) (w := g1.1 14) (x := g1.1 15) (y := g1.1 16) (a := a) hk (MM_tick (v := dec9 (t1.1 6)) hk h)
            have hm2 := MM_ext e1 e2 hm
            rw [hO.1, hO.2.1] at hm2
            refine ih (k + 1) _ _ _ (by omega) (by omega) (MM_tl hm2) ?_ ?_ ?_
            · rw [e1]; exact hu
            · rw [e1]; exact h3
            · refine OJ_cong (fun i hi => ?_) (fun i h5 h6 => ?_) hO
              · rw [e1]
                simp [gdi, gsi, va_up, show ¬ i = 2 by omega, show ¬ i = 5 by omega]
              · simp [tl, ti, si, va_up, show ¬ i = 6 by omega, show ¬ i = 9 by omega]
        · rw [if_neg c0, if_pos (lv.mpr c0)]
          exact ih (k + 1) told g1 t1 (by omega) (by omega) h hu h3 hO
theorem sim_jo {r x y : Nat} {q a : Int32} {v : Int64} (hnd : nd ≤ 10) (hRR : R ≤ 48) (hx : x < nd) (hy : y < nd) (hr : r < R) (h : MM nd nd g t) (hu : g.1 1 = 1) (h3 : g.1 3 = t.1 7 ∧ t.1 5 = U) (hO : OJ R nd r x y q a g t) : OC nd nd U (gf_4_carryOutOrder R nd g) (mf_journaled R nd t q a v).1 (mf_journaled R nd t q a v).2 := by
  unfold gf_4_carryOutOrder mf_journaled
  exact sim_jl hnd hRR hx hy hr (nd + 1) 0 0 g t (by omega) (by omega) h hu h3 hO
end SIME
