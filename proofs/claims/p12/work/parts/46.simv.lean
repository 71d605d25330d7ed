/-! ===== the fresh object; the calls that change nothing; the relation over the whole run ===== -/
theorem mg_init_sp {R nd : Nat} (hnd : nd ≤ 10) : ∀ (j k : Nat) (t1 : MS), k ≤ nd → nd < k + j → (mg_init_175 R nd j k t1).1 = t1.1 ∧ (mg_init_175 R nd j k t1).2.2 = t1.2.2 ∧ (∀ q, ¬ (q = 2 ∨ q = 3 ∨ q = 4 ∨ q = 5) → (mg_init_175 R nd j k t1).2.1 q = t1.2.1 q) ∧ ∀ d, (k ≤ d → d < nd → (mg_init_175 R nd j k t1).2.1 2 d = 1 ∧ (mg_init_175 R nd j k t1).2.1 3 d = t1.1 2 ∧ (mg_init_175 R nd j k t1).2.1 4 d = t1.1 3 ∧ (mg_init_175 R nd j k t1).2.1 5 d = 0) ∧ (d < k → (mg_init_175 R nd j k t1).2.1 2 d = t1.2.1 2 d ∧ (mg_init_175 R nd j k t1).2.1 3 d = t1.2.1 3 d ∧ (mg_init_175 R nd j k t1).2.1 4 d = t1.2.1 4 d ∧ (mg_init_175 R nd j k t1).2.1 5 d = t1.2.1 5 d) := by
  intro j
  induction j with
  | zero => intro k t1 h1 h2; omega
  | succ j ih =>
    intro k t1 h1 h2
    rw [mg_init_175]
    split
    · rename_i c
      have hk : nd ≤ k := ndle c (by omega)
      exact ⟨rfl, rfl, fun _ _ => rfl, fun d => ⟨fun h3 h4 => by omega, fun _ => ⟨rfl, rfl, rfl, rfl⟩⟩⟩
    · rename_i c
      have hk : k < nd := nd_lt c (by omega)
      obtain ⟨a1, a2, a3, a4⟩ := ih (k + 1) (mf_tells R nd t1 (nI k) 1 (t1.1 2) (t1.1 3) 0) (by omega) (by omega)
      have hc : (nI k).toNatClampNeg = k := nI_clamp (by omega)
      refine ⟨a1.trans rfl, a2.trans rfl, fun q hq => ?_, fun d => ⟨fun h3 h4 => ?_, fun h3 => ?_⟩⟩
      · rw [a3 q hq]
        simp only [not_or] at hq
        simp [mf_tells, ti, va_up, hq]
      · rcases Nat.lt_or_ge k d with q | q
        · exact (a4 d).1 q h4
        · have e : d = k := by omega
          subst e
          obtain ⟨b1, b2, b3, b4⟩ := (a4 d).2 (by omega)
          rw [b1, b2, b3, b4]
          simp [mf_tells, ti, va_up, hc]
      · obtain ⟨b1, b2, b3, b4⟩ := (a4 d).2 (by omega)
        rw [b1, b2, b3, b4]
        have e : ¬ d = k := by omega
        simp [mf_tells, ti, va_up, hc, e]
section SIMV
variable {R nd b : Nat} {g : GS} {t : MS}
theorem INV.mono (h : INV R nd b g t) : INV R nd (b + 1) g t := h.imp (fun q => ⟨q.1.mono, q.2⟩) (fun q => ⟨q.1.mono, q.2⟩)
theorem INV_0 (hR : 2 ≤ R ∧ R ≤ 48) (hn : 3 ≤ nd ∧ nd ≤ 7) : INV R nd 1 (g00 nd) (mf_init R nd) := by
  unfold mf_init
  obtain ⟨a1, a2, a3, a4⟩ := mg_init_sp (R := R) (nd := nd) (by omega) (nd + 1) 0 (si (si (si mt00 1 1) 2 (nI nd)) 3 (nI nd)) (by omega) (by omega)
  generalize mg_init_175 R nd (nd + 1) 0 (si (si (si mt00 1 1) 2 (nI nd)) 3 (nI nd)) = T at a1 a2 a3 a4
  have c0 : ∀ q, ¬ (q = 2 ∨ q = 3 ∨ q = 4 ∨ q = 5) → ∀ d, T.2.1 q d = 0 := fun q hq d => by rw [a3 q hq]; rfl
  have s : ∀ z, T.1 z = (si (si (si mt00 1 1) 2 (nI nd)) 3 (nI nd)).1 z := fun z => by rw [a1]
  have sup : ∀ d, d < nd → SUP T d = HLD T := fun d hd => by
    obtain ⟨b1, b2, b3, b4⟩ := (a4 d).1 (by omega) hd
    unfold SUP HLD
    rw [b1, b2, b3, b4, s 1, s 2, s 3, s 4]
    rfl
  have hH : HLD T = (nI 1, nI nd, nI nd, nI 0) := by
    unfold HLD
    rw [s 1, s 2, s 3, s 4]
    rfl
  have geo : Geo9 R nd 1 (HLD T) := ⟨1, nd, nd, 0, hH, by omega, by omega, by omega, Nat.le_refl _, Nat.le_refl _, by omega, fun _ => rfl⟩
  refine Or.inl ⟨⟨⟨⟨?_, ?_, ?_, ?_, ?_, ?_, ?_, ?_, ?_⟩, fun d hd => ?_, fun d hd _ => ?_, fun d h1 h2 => by omega⟩, geo, fun d hd _ => by rw [sup d hd]; exact geo, fun d e h1 h2 _ _ _ => (sup d h1).trans (sup e h2).symm, fun d e _ _ _ _ h5 => absurd (c0 6 (by decide) e) h5, fun i j _ _ h3 _ => absurd (c0 0 (by decide) i) h3, fun i => ?_, fun d hd => ?_⟩, rfl, ?_, ?_, ⟨0, by omega, ?_⟩, fun d hd _ => sup d hd⟩
  · rw [s 6]; rfl
  · rw [s 8]; rfl
  · rw [s 9]; rfl
  · rw [s 10]; rfl
  · rw [s 11]; rfl
  · rw [s 1]; rfl
  · rw [s 2]; rfl
  · rw [s 3]; rfl
  · rw [s 4]; rfl
  · obtain ⟨b1, b2, b3, b4⟩ := (a4 d).1 (by omega) hd
    unfold dE
    rw [b1, b2, b3, b4, c0 6 (by decide) d, c0 9 (by decide) d, c0 1 (by decide) d]
    refine ⟨?_, ?_, ?_, ?_, ?_, fun q => absurd rfl q, ?_, ?_⟩
    · simp [g00, hd]
    · simp [g00, hd, si, va_up]
    · simp [g00, hd, si, va_up]
    · simp [g00]
    · simp [g00]
    · simp [g00]
    · simp [g00]
  · refine Or.inr (Or.inl ⟨c0 0 (by decide) d, by simp [g00], ?_⟩)
    rw [((a4 d).1 (by omega) hd).1]
    decide
  · rw [c0 8 (by decide) i]
    exact vp_in_nI (n := 0) (by decide) (by decide)
  · have : ¬ d < nd := by omega
    simp [g00]
  · rw [s 5]; rfl
  · rw [s 7]; rfl
  · rw [s 7]; rfl
/-! the calls that change nothing -/
theorem op_read (hn : 3 ≤ nd ∧ nd ≤ 10) (hR : 2 ≤ R ∧ R ≤ 48) (h : INV R nd b g t) (y : Int64) (x : Int32) : mf_thrown R nd (mf_read R nd t x).2 = (lr_read R nd g y x).1 ∧ (lr_read R nd g y x).2.1 = nd ∧ INV R nd (b + 1) (lr_read R nd g y x).2.2.1 (mf_read R nd t x).2 := by
  obtain ⟨N', q1, q2, q3, q4, q5⟩ := h.bi.places hn.2 hR.2
  unfold lr_read mf_read mf_thrown
  rcases id h with h' | h'
  · rw [if_neg (show ¬ g.1 1 = 0 by rw [h'.2.1]; decide), if_neg (show ¬ t.1 5 = 0 by rw [h'.2.2.1]; decide)]
    by_cases c0 : x < 0
    · rw [if_pos c0, if_pos (gp_isPlace0.mpr (Or.inl c0))]
      exact ⟨rfl, rfl, h.th⟩
    · rw [if_neg c0]
      by_cases c1 : x < mf_places R nd t
      · have c2 : ¬ gf_4_isPlace R nd g x = 0 := by
          rw [gp_isPlace0, q4, ← q3]
          intro q
          rcases q with q | q
          · exact c0 q
          · exact Int32.not_lt.mpr q c1
        rw [if_pos c1, if_neg c2]
        exact ⟨rfl, rfl, h.th⟩
      · rw [if_neg c1, if_pos (gp_isPlace0.mpr (Or.inr (by rw [q4, ← q3]; exact Int32.not_lt.mp c1)))]
        exact ⟨rfl, rfl, h.th⟩
  · rw [if_pos h'.2.1, if_pos h'.2.2.1]
    exact ⟨rfl, rfl, h.th⟩
theorem sum_st : ∀ (j k : Nat) (acc : Int64) (t1 : MS), (mg_sum_29 R nd j k acc t1).2 = t1 := by
  intro j
  induction j with
  | zero => intro k acc t1; rfl
  | succ j ih =>
    intro k acc t1
    rw [mg_sum_29]
    split
    · rfl
    · exact ih _ _ _
theorem op_sum (h : INV R nd b g t) (y : Int64) : mf_thrown R nd (mf_sum R nd t).2 = (lr_sum R nd g y).1 ∧ (lr_sum R nd g y).2.1 = nd ∧ INV R nd (b + 1) (lr_sum R nd g y).2.2.1 (mf_sum R nd t).2 := by
  unfold lr_sum mf_sum mf_thrown
  rcases id h with h' | h'
  · rw [if_neg (show ¬ g.1 1 = 0 by rw [h'.2.1]; decide), if_neg (show ¬ t.1 5 = 0 by rw [h'.2.2.1]; decide), sum_st]
    exact ⟨rfl, rfl, h.th⟩
  · rw [if_pos h'.2.1, if_pos h'.2.2.1]
    exact ⟨rfl, rfl, h.th⟩
theorem op_astray (h : INV R nd b g t) : INV R nd (b + 1) g (mf_astray R nd t).2 := by
  unfold mf_astray
  repeat' split
  all_goals exact h.th
theorem count_st (w : Int32) : (mf_count R nd t w).2 = si t 0 0 := by
  unfold mf_count
  by_cases c0 : w = 0
  · (rw [if_pos c0]) <;> first | rfl | (split <;> rfl)
  rw [if_neg c0]
  by_cases c1 : w = 1
  · (rw [if_pos c1]) <;> first | rfl | (split <;> rfl)
  rw [if_neg c1]
  by_cases c2 : w = 2
  · (rw [if_pos c2]) <;> first | rfl | (split <;> rfl)
  rw [if_neg c2]
  by_cases c3 : w = 3
  · (rw [if_pos c3]) <;> first | rfl | (split <;> rfl)
  rw [if_neg c3]
  by_cases c4 : w = 4
  · (rw [if_pos c4]) <;> first | rfl | (split <;> rfl)
  rw [if_neg c4]
  by_cases c5 : w = 5
  · (rw [if_pos c5]) <;> first | rfl | (split <;> rfl)
  rw [if_neg c5]
  by_cases c6 : w = 6
  · (rw [if_pos c6]) <;> first | rfl | (split <;> rfl)
  rw [if_neg c6]
  by_cases c7 : w = 7
  · (rw [if_pos c7]) <;> first | rfl | (split <;> rfl)
  rw [if_neg c7]
  by_cases c8 : w = 8
  · (rw [if_pos c8]) <;> first | rfl | (split <;> rfl)
  rw [if_neg c8]
  by_cases c9 : w = 9
  · (rw [if_pos c9]) <;> first | rfl | (split <;> rfl)
  rw [if_neg c9]
  by_cases c10 : w = 10
  · (rw [if_pos c10]) <;> first | rfl | (split <;> rfl)
  rw [if_neg c10]
  by_cases c11 : w = 11
  · (rw [if_pos c11]) <;> first | rfl | (split <;> rfl)
  rw [if_neg c11]
  by_cases c12 : w = 12
  · (rw [if_pos c12]) <;> first | rfl | (split <;> rfl)
  rw [if_neg c12]
  by_cases c13 : w = 13
  · (rw [if_pos c13]) <;> first | rfl | (split <;> rfl)
  rw [if_neg c13]
  by_cases c14 : w = 14
  · (rw [if_pos c14]) <;> first | rfl | (split <;> rfl)
  rw [if_neg c14]
theorem op_count (h : INV R nd b g t) (w : Int32) : INV R nd (b + 1) g (mf_count R nd t w).2 := by
  rw [count_st]
  exact h.th
theorem op_place (hn : 3 ≤ nd ∧ nd ≤ 10) (hR : 2 ≤ R ∧ R ≤ 48) (h : INV R nd b g t) (x w : Int32) : gf_4_place R nd g x w = (mf_place R nd t x w).1 ∧ INV R nd (b + 1) g (mf_place R nd t x w).2 := by
  have hB : BI R nd b g (si t 0 0) := h.bi
  obtain ⟨S, N, M, F, e1, e2, e3, e4, f1, f2, f3, f4, r1, r2, r3, r4, r5, r6, r7⟩ := hB.nums
  have hpl : mf_places R nd (si t 0 0) = nI (R * (N - 1)) := by
    unfold mf_places
    rw [e2, nI_one, pk_sub (by omega), pk_mul]
  have hgp : gf_4_placeCount R nd g = nI (R * (N - 1)) := (gp_places (f2.trans e2.symm)).trans hpl
  have hle : R * (N - 1) ≤ 432 := Nat.le_trans (Nat.mul_le_mul hR.2 (show N - 1 ≤ 9 by omega)) (by decide)
  refine ⟨?_, ?_⟩
  · unfold gf_4_place mf_place
    by_cases c0 : x < 0
    · rw [if_pos c0, if_pos (gp_isPlace0.mpr (Or.inl c0))]
    · rw [if_neg c0]
      by_cases c1 : x < mf_places R nd (si t 0 0)
      · have c2 : ¬ gf_4_isPlace R nd g x = 0 := by
          rw [gp_isPlace0, hgp, ← hpl]
          intro q
          rcases q with q | q
          · exact c0 q
          · exact Int32.not_lt.mpr q c1
        rw [if_pos c1, if_neg c2]
        rw [hpl] at c1
        obtain ⟨A, hA, rfl⟩ := vp_in_of (ix_lt c0 c1 (Nat.le_refl _) (by omega)) (by omega)
        obtain ⟨p1, p2, p3, p4, p5, p6, p7⟩ := place_nI (R := R) (nd := nd) e2 e3 e4 f2 f3 f4 (by omega) r4 r3 (by omega) r7 (show A < 432 by omega)
        have hle2 : F * (M - 1) ≤ 48 * 9 := Nat.mul_le_mul (by omega) (by omega)
        have mv : (gf_4_isMoved R nd g (nI A) = 0) ↔ (mf_isByM R nd (si t 0 0) (nI A) = 0) := by
          unfold gf_4_isMoved mf_isByM mf_isReshaped
          rw [f3, f4, e2, e3, e4, nI_one, pk_sub (by omega), pk_mul]
          by_cases c : F * (M - 1) ≤ A
          · rw [if_pos (nI_le c (by omega)), ite_self]
          · have hn : ¬ nI M = nI N := fun q => by
              have : M = N := nI_inj (by omega) (by omega) q
              have := r7 this.symm
              subst this
              omega
            rw [if_neg (nI_ge (by omega) (by omega)), if_neg hn, if_neg (show ¬ nI 1 = 0 by decide)]
        rw [p4, p5, p6, p7, p1, p2, p3]
        by_cases w0 : w = 0
        · (rw [if_pos w0, if_pos w0])
        rw [if_neg w0, if_neg w0]
        by_cases w1 : w = 1
        · (rw [if_pos w1, if_pos w1])
        rw [if_neg w1, if_neg w1]
        by_cases w2 : w = 2
        · (rw [if_pos w2, if_pos w2])
        rw [if_neg w2, if_neg w2]
        by_cases w3 : w = 3
        · rw [if_pos w3, if_pos w3]
          by_cases cm : gf_4_isMoved R nd g (nI A) = 0
          · (rw [if_pos cm, if_pos (mv.mp cm)])
          · (rw [if_neg cm, if_neg (fun q => cm (mv.mpr q))])
        (rw [if_neg w3, if_neg w3])
      · (rw [if_neg c1, if_pos (gp_isPlace0.mpr (Or.inr (by rw [hgp, ← hpl]; exact Int32.not_lt.mp c1)))])
  · unfold mf_place
    repeat' split
    all_goals exact h.th
theorem op_disk (h : INV R nd b g t) (x w : Int32) : INV R nd (b + 1) g (mf_disk R nd t x w).2 := by
  have st : (mf_disk R nd t x w).2 = si t 0 0 := by
    unfold mf_disk
    repeat' split
    all_goals rfl
  rw [st]
  exact h.th
/-- the relation over the whole run -/
def II (R nd : Nat) (k nd2 : Nat) (g : GS) (md : Nat) (t : MS) : Prop := md = nd2 ∧ (3 ≤ nd2 ∧ nd2 ≤ 10) ∧ INV R nd2 (1 + k) g t
theorem II_0 (R nd : Nat) (hR9 : 2 ≤ R ∧ R ≤ 48) (hN : 3 ≤ nd ∧ nd ≤ 7) : II R nd 0 nd (g00 nd) nd (mf_init R nd) := ⟨rfl, by omega, INV_0 hR9 hN⟩
theorem II_of {nd0 k x md : Nat} {G : GS} {T : MS} (e : x = md) (hn : 3 ≤ md ∧ md ≤ 10) (h : INV R md (1 + k + 1) G T) : II R nd0 (k + 1) x G md T := by
  subst e
  exact ⟨rfl, hn, h⟩
end SIMV
