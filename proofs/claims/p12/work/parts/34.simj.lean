/-! ===== the calls: those that leave the disks; write; cut; fail ===== -/
section SIMJ
variable {R nd b : Nat} {g : GS} {t : MS}
def INV (R nd b : Nat) (g : GS) (t : MS) : Prop := UPI R nd b g t ∨ DNI R nd b g t
theorem BI.mono (h : BI R nd b g t) : BI R nd (b + 1) g t := by
  obtain ⟨h1, h2, h3, h4, h5, h6⟩ := h
  refine ⟨h1, h2.mono (by omega) (Nat.le_refl _), fun d a c => (h3 d a c).mono (by omega) (Nat.le_refl _), h4, fun d e a1 a2 a3 a4 a5 => ?_, h6⟩
  obtain ⟨Q, S, q1, q2, q3, q4, q5⟩ := h5 d e a1 a2 a3 a4 a5
  exact ⟨Q, S, q1, q2, q3, by omega, q5⟩
theorem BI.th {v : Int32} (h : BI R nd b g t) : BI R nd b g (si t 0 v) := h
theorem INV.th {v : Int32} (h : INV R nd b g t) : INV R nd (b + 1) g (si t 0 v) := by
  rcases h with ⟨h1, h2⟩ | ⟨h1, h2⟩
  · exact Or.inl ⟨h1.mono.th, h2⟩
  · exact Or.inr ⟨h1.mono.th, h2⟩
theorem INV.bi (h : INV R nd b g t) : BI R nd b g t := h.elim (fun q => q.1) (fun q => q.1)
/-- what holds, in numbers, on both sides -/
theorem BI.nums (h : BI R nd b g t) : ∃ S N M F : Nat, t.1 1 = nI S ∧ t.1 2 = nI N ∧ t.1 3 = nI M ∧ t.1 4 = nI F ∧ g.1 8 = nI S ∧ g.1 9 = nI N ∧ g.1 10 = nI M ∧ g.1 11 = nI F ∧ 1 ≤ S ∧ S ≤ b ∧ 3 ≤ N ∧ N ≤ M ∧ M ≤ nd ∧ F < R ∧ (N = M → F = 0) := by
  obtain ⟨⟨⟨s1, s2, s3, s4, s5, s6, s7, s8, s9⟩, -⟩, ⟨S, N, M, F, e, r⟩, -⟩ := h
  have e1 : t.1 1 = nI S := congrArg Prod.fst e
  have e2 : t.1 2 = nI N := congrArg (fun x : T4 => x.2.1) e
  have e3 : t.1 3 = nI M := congrArg (fun x : T4 => x.2.2.1) e
  have e4 : t.1 4 = nI F := congrArg (fun x : T4 => x.2.2.2) e
  exact ⟨S, N, M, F, e1, e2, e3, e4, s6.trans e1, s7.trans e2, s8.trans e3, s9.trans e4, r⟩
theorem BI.places (h : BI R nd b g t) (hn : nd ≤ 10) (hR : R ≤ 48) : ∃ N : Nat, t.1 2 = nI N ∧ 3 ≤ N ∧ mf_places R nd t = nI (R * (N - 1)) ∧ gf_4_placeCount R nd g = nI (R * (N - 1)) ∧ R * (N - 1) ≤ 432 := by
  obtain ⟨S, N, M, F, e1, e2, e3, e4, f1, f2, f3, f4, r1, r2, r3, r4, r5, r6, r7⟩ := h.nums
  have hp : mf_places R nd t = nI (R * (N - 1)) := by
    unfold mf_places
    rw [e2, nI_one, pk_sub (by omega), pk_mul]
  exact ⟨N, e2, r3, hp, (gp_places (f2.trans e2.symm)).trans hp, Nat.le_trans (Nat.mul_le_mul hR (show N - 1 ≤ 9 by omega)) (by decide)⟩
theorem INV.rdy (h : INV R nd b g t) (hn : 3 ≤ nd ∧ nd ≤ 10) (hR : 2 ≤ R ∧ R ≤ 48) : Rdy R nd g nd t := by
  have hb := h.bi
  obtain ⟨S, N, M, F, e1, e2, e3, e4, f1, f2, f3, f4, r1, r2, r3, r4, r5, r6, r7⟩ := hb.nums
  obtain ⟨N', q1, q2, q3, q4, q5⟩ := hb.places hn.2 hR.2
  refine ⟨hn.2, hn.2, hR.2, ?_, ⟨N, M, e2, e3, r3, by omega, by omega, by omega⟩, fun x h0 h1 => ?_, ⟨_, q5, q3⟩, ⟨_, q5, q4⟩, ?_, fun i hi hl => ?_, fun i _ => hb.2.2.2.2.2.2.1 i⟩
  · rcases h with h | h
    · exact Or.inr h.2.1
    · exact Or.inl h.2.1
  · rw [q3] at h1
    exact ix_lt h0 h1 q5 (by decide)
  · by_cases c : t.2.1 0 0 = 0
    · exact ⟨0, by omega, c⟩
    · refine ⟨1, by omega, ?_⟩
      by_cases c1 : t.2.1 0 1 = 0
      · exact c1
      · exact absurd (hb.2.2.2.2.2.1 0 1 (by omega) (by omega) c c1) (by decide)
  · obtain ⟨S2, N2, M2, F2, e, a1, a2, a3, a4, a5, -⟩ := hb.2.2.1 i hi hl
    have z1 : t.2.1 3 i = nI N2 := congrArg (fun x : T4 => x.2.1) e
    have z2 : t.2.1 4 i = nI M2 := congrArg (fun x : T4 => x.2.2.1) e
    exact ⟨N2, M2, z1, z2, a3, by omega, by omega, by omega⟩
/-! the class's other numbers -/
theorem spend_keep (i : Nat) (h1 : ¬ i = 1) (h2 : ¬ i = 2) (h5 : ¬ i = 5) (h7 : ¬ i = 7) : (gf_4_spendWrite R nd g).2.1 i = g.1 i := by
  unfold gf_4_spendWrite
  repeat' split
  all_goals simp [gsi, va_up, h1, h2, h5, h7]
theorem carry_keep (i : Nat) (h1 : ¬ i = 1) (h2 : ¬ i = 2) (h5 : ¬ i = 5) (h7 : ¬ i = 7) : ∀ (j k : Nat) (told : Int32) (g1 : GS), (gg_4_carryOutOrder_4 R nd j k told g1).1 i = g1.1 i := by
  intro j
  induction j with
  | zero => intro k told g1; rfl
  | succ j ih =>
    intro k told g1
    have w : ∀ (g2 : GS) (a c : Int32) (v : Int64), (gf_4_writeBlock R nd g2 a c v).1 i = g2.1 i := fun g2 a c v => wb_keep i h1 h2 h5 h7
    rw [gg_4_carryOutOrder_4]
    by_cases c : nI nd ≤ nI k
    · rw [if_pos c, w, w]
    · rw [if_neg c]
      by_cases c2 : 2 ≤ told
      · rw [if_pos c2, w, w]
      · rw [if_neg c2]
        by_cases c3 : gf_4_isLive R nd g1 (nI k) = 0
        · rw [if_pos c3, ih]
        · rw [if_neg c3]
          by_cases c4 : (gf_4_spendWrite R nd g1).1 = 0
          · rw [if_pos c4, ih, spend_keep i h1 h2 h5 h7]
          · rw [if_neg c4, ih, (takeJournal_eq (R := R) (nd := nd)).1]
            exact spend_keep i h1 h2 h5 h7
/-! write -/
theorem op_write (hn : 3 ≤ nd ∧ nd ≤ 10) (hR : 2 ≤ R ∧ R ≤ 48) (hb : b ≤ 1000) (h : INV R nd b g t) (y : Int64) (x : Int32) (v : Int64) :
    mf_thrown R nd (mf_write R nd t x v).2 = (lr_write R nd g y x v).1 ∧ ((lr_write R nd g y x v).1 = 0 → (lr_write R nd g y x v).2.2.2 = if (mf_write R nd t x v).1 = 0 then 0 else 1) ∧ (lr_write R nd g y x v).2.1 = nd ∧ INV R nd (b + 1) (lr_write R nd g y x v).2.2.1 (mf_write R nd t x v).2 := by
  unfold lr_write mf_write mf_thrown
  rcases h with h | h
  · obtain ⟨hB, hu, hu2, h3, ⟨B, hB1, hB2⟩, hh⟩ := id h
    have hU : ¬ g.1 1 = 0 := by rw [hu]; decide
    have hU2 : ¬ t.1 5 = 0 := by rw [hu2]; decide
    obtain ⟨S, N, M, F, e1, e2, e3, e4, f1, f2, f3, f4, r1, r2, r3, r4, r5, r6, r7⟩ := hB.nums
    obtain ⟨N', q1, q2, q3, q4, q5⟩ := hB.places hn.2 hR.2
    have eN : N' = N := nI_inj (by
      have : N' - 1 ≤ 432 := by
        rcases Nat.lt_or_ge 432 (N' - 1) with z | z
        · have := Nat.mul_le_mul (show 1 ≤ R by omega) (Nat.le_of_lt z)
          have : 1 * 432 < R * (N' - 1) := Nat.lt_of_lt_of_le (show 1 * 432 < 1 * (N' - 1) by omega) (Nat.mul_le_mul_right _ (by omega))
          omega
        · exact z
      omega) (by omega) (q1.symm.trans e2)
    subst eN
    rw [if_neg hU, if_neg hU2]
    by_cases c0 : x < 0
    · rw [if_pos c0, if_pos (gp_isPlace0.mpr (Or.inl c0))]
      exact ⟨rfl, fun q => absurd (show (2 : Int32) = 0 from q) (by decide), rfl, INV.th (Or.inl h)⟩
    · rw [if_neg c0]
      by_cases c1 : x < mf_places R nd t
      · have c2 : ¬ gf_4_isPlace R nd g x = 0 := by
          rw [gp_isPlace0, q4, ← q3]
          intro q
          rcases q with q | q
          · exact c0 q
          · exact Int32.not_lt.mpr q c1
        rw [if_pos c1, if_neg c2]
        rw [q3] at c1
        obtain ⟨A, hA, rfl⟩ := vp_in_of (ix_lt c0 c1 (Nat.le_refl _) (by omega)) (by omega)
        obtain ⟨p1, p2, p3, p4, p5, p6, p7⟩ := place_nI (R := R) (nd := nd) e2 e3 e4 f2 f3 f4 (by omega) r4 r3 (by omega) r7 (show A < 432 by omega)
        obtain ⟨w3, wM⟩ := wid_le (F := F) (A := A) r3 r4
        have hrow := row_lt (R := R) (F := F) (A := A) r3 r4 r6 hA
        have hdsk := dsk_lt (A := A) w3
        have hpar := par_lt (A := A) w3
        obtain ⟨pv, ew⟩ : ∃ pv, gf_4_write R nd g (nI A) v = ((gf_4_carryOutOrder R nd (gli (gli (gf_2_tell_r R nd (gsi g 4 (g.1 4 + 1)) (g.1 8) (g.1 4 + 1) (nI (rowN (widN N' M F A) A)) (nI (dskN (widN N' M F A) A)) (nI (parN (widN N' M F A) A))) 0 0 0 v) 0 0 1 pv)).1 1, gf_4_carryOutOrder R nd (gli (gli (gf_2_tell_r R nd (gsi g 4 (g.1 4 + 1)) (g.1 8) (g.1 4 + 1) (nI (rowN (widN N' M F A) A)) (nI (dskN (widN N' M F A) A)) (nI (parN (widN N' M F A) A))) 0 0 0 v) 0 0 1 pv)) := by
          unfold gf_4_write
          rw [p4, p5, p6, p7]
          exact ⟨_, rfl⟩
        rw [ew]
        generalize eg : gli (gli (gf_2_tell_r R nd (gsi g 4 (g.1 4 + 1)) (g.1 8) (g.1 4 + 1) (nI (rowN (widN N' M F A) A)) (nI (dskN (widN N' M F A) A)) (nI (parN (widN N' M F A) A))) 0 0 0 v) 0 0 1 pv = g'
        have a1 : g'.2.1 = g.2.1 := by rw [← eg]; rfl
        have a2 : ∀ i, ¬ i = 4 → i < 12 → g'.1 i = g.1 i := by
          intro i h4 h12
          rw [← eg]
          simp [gli, gf_2_tell_r, gsi, va_up, h4, show ¬ i = 12 by omega, show ¬ i = 13 by omega, show ¬ i = 14 by omega, show ¬ i = 15 by omega, show ¬ i = 16 by omega]
        have a4 : g'.1 4 = g.1 4 + 1 := by rw [← eg]; rfl
        have hM' : MM nd nd g' (si (si t 0 0) 8 (t.1 8 + 1)) := by
          obtain ⟨⟨s1, s2, s3, s4, s5, s6, s7, s8, s9⟩, m2⟩ := hB.1
          refine ⟨?_, ?_⟩
          · unfold sE
            rw [a4, a2 2 (by decide) (by decide), a2 5 (by decide) (by decide), a2 6 (by decide) (by decide), a2 7 (by decide) (by decide), a2 8 (by decide) (by decide), a2 9 (by decide) (by decide), a2 10 (by decide) (by decide), a2 11 (by decide) (by decide), s2]
            exact ⟨s1, rfl, s3, s4, s5, s6, s7, s8, s9⟩
          · unfold dE stE at m2 ⊢
            rw [a1]
            exact m2
        have hO : OJ R nd (rowN (widN N' M F A) A) (dskN (widN N' M F A) A) (parN (widN N' M F A) A) (t.1 8 + 1) (nI A) g' (si (si t 0 0) 8 (t.1 8 + 1)) := by
          obtain ⟨-, z1, z2, z3⟩ := geo_cong (R := R) (nd := nd) (a := nI A) (t := t) (t' := si (si t 0 0) 8 (t.1 8 + 1)) rfl rfl rfl
          refine ⟨?_, ?_, ?_, ?_, ?_, z1.trans p1, z2.trans p2, z3.trans p3⟩
          · rw [← eg]; exact hB.1.1.2.2.2.2.2.1
          · rw [← eg, ← hB.1.1.2.1]; rfl
          · rw [← eg]; rfl
          · rw [← eg]; rfl
          · rw [← eg]; rfl
        have hu' : g'.1 1 = 1 := (a2 1 (by decide) (by decide)).trans hu
        have h3' : g'.1 3 = (si (si t 0 0) 8 (t.1 8 + 1)).1 7 ∧ (si (si t 0 0) 8 (t.1 8 + 1)).1 5 = 1 := ⟨(a2 3 (by decide) (by decide)).trans h3, hu2⟩
        have key := sim_jo (R := R) (v := v) hn.2 hR.2 (by omega) (by omega) hrow hM' hu' h3' hO
        have jw := jl_w (R := R) (v := v) hn.2 (nd + 1) 0 0 g' _ (by omega) (by omega) hM' hu' hO
        have gf := GF_carry (R := R) (g := g') hn.2
        have ks : ∀ i, ¬ sPok i → (mf_journaled R nd (si (si t 0 0) 8 (t.1 8 + 1)) (t.1 8 + 1) (nI A) v).2.1 i = (si (si t 0 0) 8 (t.1 8 + 1)).1 i := fun i hi => mf_journaled_s i hi
        have ka : ∀ z, 2 ≤ z → ¬ z = 6 → ¬ z = 7 → ¬ z = 8 → (mf_journaled R nd (si (si t 0 0) 8 (t.1 8 + 1)) (t.1 8 + 1) (nI A) v).2.2.1 z = t.2.1 z := fun z h2 h6 h7 h8 => jl_arr _ _ _ _ z h2 h6 h7 h8
        have k3 : (gf_4_carryOutOrder R nd g').1 3 = g.1 3 := (carry_keep 3 (by decide) (by decide) (by decide) (by decide) _ _ _ _).trans (a2 3 (by decide) (by decide))
        have jw : JW (t.1 8 + 1) (nI A) (rowN (widN N' M F A) A) (dskN (widN N' M F A) A) (parN (widN N' M F A) A) g t (gf_4_carryOutOrder R nd g') (mf_journaled R nd (si (si t 0 0) 8 (t.1 8 + 1)) (t.1 8 + 1) (nI A) v).2 := by
          intro d
          have := jw d
          unfold JS at this ⊢
          rw [a1] at this
          exact this
        generalize mf_journaled R nd (si (si t 0 0) 8 (t.1 8 + 1)) (t.1 8 + 1) (nI A) v = rT at key jw ks ka
        generalize gf_4_carryOutOrder R nd g' = G at key jw gf k3
        have hS : ∀ d, SUP rT.2 d = SUP t d := by
          intro d
          unfold SUP
          rw [ka 2 (by decide) (by decide) (by decide) (by decide), ka 3 (by decide) (by decide) (by decide) (by decide), ka 4 (by decide) (by decide) (by decide) (by decide), ka 5 (by decide) (by decide) (by decide) (by decide)]
        have hH : HLD rT.2 = HLD t := by
          unfold HLD
          rw [ks 1 (by decide), ks 2 (by decide), ks 3 (by decide), ks 4 (by decide)]
          rfl
        have fin : MM nd nd G rT.2 → BI R nd (b + 1) G rT.2 ∧ ∀ d, d < nd → (rT.2.2.1 0 d = 0 ↔ t.2.1 0 d = 0) := by
          intro hm
          refine FIN (nw := up1 t) hb hB hh hm hB.2.1.up rfl (by rw [gf.1 10 (by decide), a1]) (fun d => Or.inl (hS d)) (Or.inl hH) (fun d hd => ?_) (fun i => ?_) (fun q d hd => by rw [gf.2 q d hd, a1])
          · rcases jw d with z | ⟨z1, z2, z3, z4, z5, z6⟩
            · exact Or.inl z
            · exact Or.inr ⟨z2, N', M, F, A, by unfold HLD; rw [e2, e3, e4], r3, r4, by omega, r6, z3, hA, z4, z5, z6⟩
          · rcases jw i with z | ⟨-, -, z3, -⟩
            · rw [z.2.2.1]; exact hB.2.2.2.2.2.2.1 i
            · rw [z3]; exact vp_in_nI (by omega) (by decide)
        refine ⟨ks 0 (by decide), fun _ => ?_, rfl, ?_⟩
        · show (if G.1 1 = 0 then (0 : Int64) else 1) = if rT.1 = 0 then 0 else 1
          rcases key with ⟨d1, d2, -⟩ | ⟨d1, d2, -⟩
          · rw [d1, d2]
          · rw [d1, d2]
        · rcases key with ⟨d1, d2, d3, d4, d5⟩ | ⟨d1, d2, ⟨d3, d3'⟩, d4⟩
          · obtain ⟨y1, y2⟩ := fin d3
            refine Or.inl ⟨y1, d2, d5, d4, ⟨B, hB1, ?_⟩, fun d hd hl => ?_⟩
            · rw [← d4, k3, h3, hB2]
            · rw [hS d, hH]
              exact hh d hd ((y2 d hd).mp hl)
          · exact Or.inr ⟨(fin d4).1, d2, d3, d3'⟩
      · rw [if_neg c1, if_pos (gp_isPlace0.mpr (Or.inr (by rw [q4, ← q3]; exact Int32.not_lt.mp c1)))]
        exact ⟨rfl, fun q => absurd (show (2 : Int32) = 0 from q) (by decide), rfl, INV.th (Or.inl h)⟩
  · rw [if_pos h.2.1, if_pos h.2.2.1]
    exact ⟨rfl, fun q => absurd (show (1 : Int32) = 0 from q) (by decide), rfl, INV.th (Or.inr h)⟩
end SIMJ
