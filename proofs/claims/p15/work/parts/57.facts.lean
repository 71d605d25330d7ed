/-! ===== THE BLOCKS: what holds at a call; what read, sum and astray answer ===== -/
section FA
variable {R nd b : Nat} {g : GS} {t : MS}
/-- the reference's numbers and journals stay -/
def KV (t u : MS) : Prop := u.2.2 = t.2.2 ∧ u.2.1 8 = t.2.1 8 ∧ u.1 8 = t.1 8
theorem KV.rf : KV t t := ⟨rfl, rfl, rfl⟩
theorem KV.tr {u w : MS} (h : KV t u) (k : KV u w) : KV t w := ⟨k.1.trans h.1, k.2.1.trans h.2.1, k.2.2.trans h.2.2⟩
theorem Keep.kv {P A : Nat → Prop} {u : MS} (h : Keep P A t u) (hp : ¬ P 8) (ha : ¬ A 8) : KV t u := ⟨h.2.2, h.2.1 8 ha, h.1 8 hp⟩
theorem kv_lasts : KV t (mf_lasts R nd t).2 := (mf_lasts_keep t).kv (by decide) (by decide)
theorem kv_pokes {d : Int32} : KV t (mf_pokes R nd t d).2 := (mf_pokes_keep t d).kv (by decide) (by decide)
theorem kv_block {d row : Int32} : KV t (mf_block R nd t d row).2 := (mf_block_keep t d row).kv (by decide) (by decide)
theorem kv_backups : KV t (mf_backups R nd t).2 := (mf_backups_keep t).kv (by decide) (by decide)
theorem kv_tells {d q n0 m0 f : Int32} : KV t (mf_tells R nd t d q n0 m0 f) := (mf_tells_keep t d q n0 m0 f).kv (fun z => z) (by decide)
theorem kv_sets_l {n0 m0 f also : Int32} : ∀ (j k : Nat) (t1 : MS), KV t1 (mg_sets_3 R nd n0 m0 f also j k t1).2 := by
  intro j
  induction j with
  | zero => intro k t1; exact KV.rf
  | succ j ih =>
    intro k t1
    rw [mg_sets_3]
    repeat' split
    all_goals first
      | exact ⟨rfl, rfl, rfl⟩
      | exact kv_pokes
      | exact ih _ _
      | exact kv_pokes.tr (kv_tells.tr (ih _ _))
theorem kv_sets {n0 m0 f also : Int32} : KV t (mf_sets R nd t n0 m0 f also).2 := kv_sets_l _ _ _
theorem kv_si {k : Nat} {v : Int32} (h : ¬ k = 8) : KV t (si t k v) := ⟨rfl, rfl, va_up_ne _ _ (fun e => h e.symm)⟩
theorem kv_ti {k i : Nat} {v : Int32} (h : ¬ k = 8) : KV t (ti t k i v) := ⟨rfl, va_up_ne _ _ (fun e => h e.symm), rfl⟩
theorem kv_moves_l : ∀ (j k : Nat) (t1 : MS), KV t1 (mg_moves_2 R nd j k t1).2 := by
  intro j
  induction j with
  | zero => intro k t1; exact KV.rf
  | succ j ih =>
    intro k t1
    rw [mg_moves_2]
    repeat' split
    all_goals first
      | exact kv_sets
      | exact kv_sets.tr (kv_si (by decide))
      | exact kv_block
      | exact kv_block.tr (ih _ _)
theorem kv_moves : KV t (mf_moves R nd t).2 := kv_moves_l _ _ _
theorem lvT {d : Nat} (hm : MM nd nd g t) (hnd : nd ≤ 10) : lvD nd g d ↔ d < nd ∧ t.2.1 0 d = 0 := by
  by_cases hd : d < nd
  · have l1 := live_k (R := 0) hd hnd (hm.2.1 d hd) (hm.2.2.1 d hd (by omega))
    have l2 := lvk_iff (R := 0) (g := g) hd hnd
    constructor
    · intro z
      exact ⟨hd, Classical.byContradiction (fun w => l2.mp (l1.mpr w) z)⟩
    · intro z
      exact Classical.byContradiction (fun w => l1.mp (l2.mpr w) z.2)
  · exact ⟨fun z => absurd z.1 hd, fun z => absurd z.1 hd⟩
theorem sup_eq {d : Nat} (hm : MM nd nd g t) (hd : d < nd) : sup4 g d = SUP t d := by
  obtain ⟨a1, a2, a3, a4, -⟩ := hm.2.1 d hd
  unfold sup4 SUP
  rw [a1, a2, a3, a4]
theorem hld_eq {al : Nat} (hm : MM al nd g t) : hl4 g = HLD t := by
  obtain ⟨⟨-, -, -, -, -, s6, s7, s8, s9⟩, -⟩ := hm
  unfold hl4 HLD
  rw [s6, s7, s8, s9]
theorem one_of (hB : BI R nd b g t) (hnd : nd ≤ 10) : one9 nd g := fun i j hi hj h1 h2 => hB.2.2.2.2.2.1 i j hi hj (fun z => h1 ((lvT hB.1 hnd).mpr ⟨hi, z⟩)) (fun z => h2 ((lvT hB.1 hnd).mpr ⟨hj, z⟩))
/-- no journal is of a later sequence -/
theorem noj {S : Nat} (hn : 3 ≤ nd ∧ nd ≤ 10) (hb : b ≤ 1001) (hB : BI R nd b g t) (hh : ∀ d, d < nd → t.2.1 0 d = 0 → SUP t d = HLD t) (hS : t.1 1 = nI S) (hSb : S ≤ 1001) : ∀ d, d < nd → g.2.1 10 d = 0 → ¬ jh g (S + 1) d := by
  intro d hd h10 hj
  have ex : ∃ d0, d0 < nd ∧ t.2.1 0 d0 = 0 := by
    rcases one_01 (one_of hB hn.2) hn.1 with z | z
    · exact ⟨0, (lvT hB.1 hn.2).mp z⟩
    · exact ⟨1, (lvT hB.1 hn.2).mp z⟩
  obtain ⟨d0, hd0, l0⟩ := ex
  have dk := hB.1.2.1 d hd
  have n6 : ¬ t.2.1 6 d = 0 := by
    rw [← dk.2.2.2.2.1]
    exact pos0 hj.2
  have nf : ¬ t.2.1 0 d = 1 := fun z => by
    have := (fl_iff hB.1 hd).mp z
    rw [h10] at this
    exact absurd this (by decide)
  obtain ⟨Q, S9, q1, q2, q3, q4, -⟩ := hB.2.2.2.2.1 d0 d hd0 hd l0 nf n6
  rw [hh d0 hd0 l0] at q2
  have e9 : S9 = S := nI_inj (by omega) (by omega) (q2.symm.trans hS)
  have := nI_inj (by omega) (by omega) ((dk.2.2.2.2.2.1 n6).symm.trans (hj.1) |>.symm.trans q1 |>.symm)
  omega
theorem UPI.get (hn : 3 ≤ nd ∧ nd ≤ 10) (hR : 2 ≤ R ∧ R ≤ 48) (hb : b ≤ 1001) (h : UPI R nd b g t) (hd : UPD R nd g t) : ∃ S N M F X, bd4 S N M F ∧ S ≤ b ∧ M ≤ nd ∧ F < R ∧ HLD t = q4 S N M F ∧ hl4 g = q4 S N M F ∧ (∀ d, lvD nd g d → sup4 g d = q4 S N M F) ∧ UPX R (lvD nd g) S N M F X g t ∧ (∀ d r, d < nd → g.2.1 10 d = 0 → g.2.1 0 d = 0 → ¬ g.1 3 ≤ nI r → r < R → d < wrN N M F r → g.2.2 4 d r = X d r) ∧ one9 nd g ∧ ∀ d, d < nd → g.2.1 10 d = 0 → ¬ jh g (S + 1) d := by
  obtain ⟨hB, hu, hu2, h3, hb3, hh⟩ := h
  obtain ⟨S0, N0, M0, F0, e1, e2, e3, e4, f1, f2, f3, f4, r1, r2, r3, r4, r5, r6, r7⟩ := hB.nums
  obtain ⟨S, N, M, F, X, bd, k1, k2, k3, k4, hx, hrb⟩ := hd
  obtain ⟨s1, s2, n3, nM, m10, f48, nF⟩ := id bd
  have eS : S = S0 := nI_inj (by omega) (by omega) (k1.symm.trans f1)
  have eN : N = N0 := nI_inj (by omega) (by omega) (k2.symm.trans f2)
  have eM : M = M0 := nI_inj (by omega) (by omega) (k3.symm.trans f3)
  have eF : F = F0 := nI_inj (by omega) (by omega) (k4.symm.trans f4)
  subst eS eN eM eF
  have hH : HLD t = q4 S N M F := by unfold HLD q4; rw [e1, e2, e3, e4]
  refine ⟨S, N, M, F, X, bd, r2, r5, r6, hH, (hld_eq hB.1).trans hH, fun d z => ?_, hx, hrb, one_of hB hn.2, noj hn hb hB hh e1 (by omega)⟩
  have z2 := (lvT hB.1 hn.2).mp z
  rw [sup_eq hB.1 z2.1, hh d z2.1 z2.2, hH]
theorem UPX.val {S N M F A : Nat} {X : Nat → Nat → Int64} (hnd : nd ≤ 10) (hR : R ≤ 48) (bd : bd4 S N M F) (hM : M ≤ nd) (hF : F < R) (hl : hl4 g = q4 S N M F) (one : one9 nd g) (h : UPX R (lvD nd g) S N M F X g t) (hA : A < R * (N - 1)) : gf_4_valueOf R nd g (nI A) = t.2.2 1 A := by
  obtain ⟨s1, s2, n3, nM, m10, f48, nF⟩ := id bd
  have hA4 : A < 432 := Nat.lt_of_lt_of_le hA (Nat.le_trans (Nat.mul_le_mul hR (show N - 1 ≤ 9 by omega)) (by decide))
  have hrow := row_lt (R := R) (F := F) (A := A) n3 nM hF hA
  have hwr := wr_row (F := F) (A := A) n3 nM
  rw [← h.1.2.1 A (Or.inl hA)]
  refine valOf (congrArg (fun x : T4 => x.2.1) hl) (congrArg (fun x : T4 => x.2.2.1) hl) (congrArg (fun x : T4 => x.2.2.2) hl) n3 nM hM hnd f48 hA4 hrow hR (fun e he z => h.2.1 e _ z hrow (by rw [hwr]; exact he)) ?_ one
  have := h.1.1 _ hrow
  rw [hwr] at this
  exact this
theorem val_read (hn : 3 ≤ nd ∧ nd ≤ 10) (hR : 2 ≤ R ∧ R ≤ 48) (hb : b ≤ 1000) (h : INV R nd b g t) (hd : DAT R nd b g t) (y : Int64) (x : Int32) : (lr_read R nd g y x).1 = 0 → (lr_read R nd g y x).2.2.2 = (mf_read R nd t x).1 := by
  unfold lr_read mf_read
  rcases id h with h' | h'
  · obtain ⟨S, N, M, F, X, bd, x1, x2, x3, x4, x5, x6, x7, x8, x9, x10⟩ := h'.get hn hR (by omega) (hd.2.2.1 h'.2.1)
    have q3 : mf_places R nd t = nI (R * (N - 1)) := by
      unfold mf_places
      rw [show t.1 2 = nI N from congrArg (fun x : T4 => x.2.1) x4, nI_one, pk_sub (by have := bd.2.2.1; omega), pk_mul]
    have q4' : gf_4_placeCount R nd g = nI (R * (N - 1)) := (gp_places h.bi.1.1.2.2.2.2.2.2.1).trans q3
    have hle : R * (N - 1) ≤ 432 := Nat.le_trans (Nat.mul_le_mul hR.2 (show N - 1 ≤ 9 by have := bd.2.2.2.1; have := bd.2.2.2.2.1; omega)) (by decide)
    rw [if_neg (show ¬ g.1 1 = 0 by rw [h'.2.1]; decide), if_neg (show ¬ t.1 5 = 0 by rw [h'.2.2.1]; decide)]
    by_cases c0 : x < 0
    · rw [if_pos (gp_isPlace0.mpr (Or.inl c0))]
      exact fun z => absurd (show (2 : Int32) = 0 from z) (by decide)
    · rw [if_neg c0]
      by_cases c1 : x < mf_places R nd t
      · have c2 : ¬ gf_4_isPlace R nd g x = 0 := by
          rw [gp_isPlace0, q4', ← q3]
          intro q
          rcases q with q | q
          · exact c0 q
          · exact Int32.not_lt.mpr q c1
        rw [if_pos c1, if_neg c2]
        intro _
        rw [q3] at c1
        obtain ⟨A, hA, rfl⟩ := vp_in_of (ix_lt c0 c1 (Nat.le_refl _) (by omega)) (by omega)
        dsimp only
        have hc : (nI A).toNatClampNeg = A := nI_clamp (by omega)
        rw [hc]
        have e := x7.val hn.2 hR.2 bd x2 x3 x5 x9 hA
        unfold gf_4_read
        exact e
      · rw [if_pos (gp_isPlace0.mpr (Or.inr (by rw [q4', ← q3]; exact Int32.not_lt.mp c1)))]
        exact fun z => absurd (show (2 : Int32) = 0 from z) (by decide)
  · rw [if_pos h'.2.1]
    exact fun z => absurd (show (1 : Int32) = 0 from z) (by decide)
theorem sum_l {P : Nat} {t1 : MS} (hP : P ≤ 432) (hp : mf_places R nd t1 = nI P) (hv : ∀ A, A < P → gf_4_valueOf R nd g (nI A) = t1.2.2 1 A) : ∀ (j k : Nat) (acc : Int64), k ≤ P → gg_4_sum_14 R nd g j k acc (nI P) = (mg_sum_29 R nd j k acc t1).1 := by
  intro j
  induction j with
  | zero => intro k acc _; rfl
  | succ j ih =>
    intro k acc hk
    rw [gg_4_sum_14, mg_sum_29, hp]
    by_cases c : nI P ≤ nI k
    · rw [if_pos c, if_pos c]
    · have hk2 : k < P := nd_lt c (by omega)
      rw [if_neg c, if_neg c, hv k hk2]
      exact ih (k + 1) _ (by omega)
theorem val_sum (hn : 3 ≤ nd ∧ nd ≤ 10) (hR : 2 ≤ R ∧ R ≤ 48) (hb : b ≤ 1000) (h : INV R nd b g t) (hd : DAT R nd b g t) (y : Int64) : (lr_sum R nd g y).1 = 0 → (lr_sum R nd g y).2.2.2 = (mf_sum R nd t).1 := by
  unfold lr_sum mf_sum
  rcases id h with h' | h'
  · obtain ⟨S, N, M, F, X, bd, x1, x2, x3, x4, x5, x6, x7, x8, x9, x10⟩ := h'.get hn hR (by omega) (hd.2.2.1 h'.2.1)
    have q3 : mf_places R nd (si t 0 0) = nI (R * (N - 1)) := by
      unfold mf_places
      rw [show (si t 0 0).1 2 = nI N from congrArg (fun x : T4 => x.2.1) x4, nI_one, pk_sub (by have := bd.2.2.1; omega), pk_mul]
    have q4' : gf_4_placeCount R nd g = nI (R * (N - 1)) := (gp_places (t := si t 0 0) h.bi.1.1.2.2.2.2.2.2.1).trans q3
    have hle : R * (N - 1) ≤ 432 := Nat.le_trans (Nat.mul_le_mul hR.2 (show N - 1 ≤ 9 by have := bd.2.2.2.1; have := bd.2.2.2.2.1; omega)) (by decide)
    rw [if_neg (show ¬ g.1 1 = 0 by rw [h'.2.1]; decide), if_neg (show ¬ t.1 5 = 0 by rw [h'.2.2.1]; decide)]
    intro _
    show gf_4_sum R nd g = _
    unfold gf_4_sum
    rw [q4']
    exact sum_l (t1 := si t 0 0) hle q3 (fun A hA => x7.val hn.2 hR.2 bd x2 x3 x5 x9 hA) 433 0 0 (by omega)
  · rw [if_pos h'.2.1]
    exact fun z => absurd (show (1 : Int32) = 0 from z) (by decide)
theorem ast_l (hz : ∀ r, r < R → gf_4_exclusiveOr R nd g (gf_4_widthOfRow R nd g (nI r)) (nI r) (-1) = 0) (hR : R ≤ 48) : ∀ (j k : Nat), k ≤ R → gg_4_astray_20 R nd g j k 0 = 0 := by
  intro j
  induction j with
  | zero => intro k _; rfl
  | succ j ih =>
    intro k hk
    rw [gg_4_astray_20]
    by_cases c : nI R ≤ nI k
    · rw [if_pos c]
    · have hk2 : k < R := nd_lt c (by omega)
      rw [if_neg c, hz k hk2, if_pos (by decide)]
      exact ih (k + 1) (by omega)
theorem wrow {N M F r : Nat} (h9 : g.1 9 = nI N) (h10 : g.1 10 = nI M) (h11 : g.1 11 = nI F) (hF : F < 48) (hr : r < 48) : gf_4_widthOfRow R nd g (nI r) = nI (wrN N M F r) := by
  unfold gf_4_widthOfRow wrN
  rw [h9, h10, h11]
  by_cases c : r < F
  · rw [if_neg (nI_ge c (by omega)), if_pos c]
  · rw [if_pos (nI_le (by omega) (by omega)), if_neg c]
theorem val_astray (hn : 3 ≤ nd ∧ nd ≤ 10) (hR : 2 ≤ R ∧ R ≤ 48) (hb : b ≤ 1000) (h : INV R nd b g t) (hd : DAT R nd b g t) : gf_4_astray R nd g = (mf_astray R nd t).1 := by
  unfold gf_4_astray mf_astray
  rcases id h with h' | h'
  · obtain ⟨S, N, M, F, X, bd, x1, x2, x3, x4, x5, x6, x7, x8, x9, x10⟩ := h'.get hn hR (by omega) (hd.2.2.1 h'.2.1)
    obtain ⟨s1, s2, n3, nM, m10, f48, nF⟩ := id bd
    have hB := h'.1
    rw [if_neg (show ¬ g.1 1 = 0 by rw [h'.2.1]; decide), if_neg (show ¬ t.1 5 = 0 by rw [h'.2.2.1]; decide)]
    have h9 : g.1 9 = nI N := congrArg (fun x : T4 => x.2.1) x5
    have h10 : g.1 10 = nI M := congrArg (fun x : T4 => x.2.2.1) x5
    have h11 : g.1 11 = nI F := congrArg (fun x : T4 => x.2.2.2) x5
    have t3 : t.1 3 = nI M := congrArg (fun x : T4 => x.2.2.1) x4
    have zero : (∀ d, d < M → lvD nd g d) → gg_4_astray_20 R nd g (R + 1) 0 0 = 0 := by
      intro hl
      refine ast_l (fun r hr => ?_) hR.2 _ _ (by omega)
      obtain ⟨w3, wM⟩ := wr_le (F := F) (r := r) n3 nM
      rw [wrow h9 h10 h11 f48 (by omega), exl_m1 (by omega) hr hR.2, xr_congr (g := fun d => X d r) _ (fun d hd => x7.2.1 d r (hl d (by omega)) hr hd)]
      exact x7.1.1 r hr
    unfold gf_4_isArrayDegraded gf_4_isSpare
    rcases nl_eq (R := R) hn.2 (show MM nd nd g (si t 0 0) from hB.1) hB.2.2.2.2.2.1 with ⟨n1, n2, n3'⟩ | ⟨i, hi, n1, n2, n3'⟩
    · rw [if_pos n1, if_pos rfl, if_pos n2]
      exact zero (fun d hd => (lvT hB.1 hn.2).mpr ⟨by omega, n3' d (by omega)⟩)
    · rw [n1, n2, if_neg (nI_m1 (by omega)), if_neg (nI_m1 (by omega)), h10, t3]
      by_cases c : i < M
      · rw [if_pos (nI_lt c (by omega)), if_pos rfl, if_neg (show ¬ (1 : Int32) = 0 by decide), if_neg (nI_ge c (by omega))]
      · rw [if_neg (nI_nlt (by omega) (by omega)), if_neg (show ¬ (1 : Int32) = 0 by decide), if_pos rfl, if_pos (nI_le (by omega) (by omega))]
        refine zero (fun d hd => (lvT hB.1 hn.2).mpr ⟨by omega, ?_⟩)
        exact Classical.byContradiction (fun z => by
          have := hB.2.2.2.2.2.1 d i (by omega) hi z n3'
          omega)
  · rw [if_pos h'.2.1, if_pos h'.2.2.1]
end FA
