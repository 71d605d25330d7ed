/-! ===== THE BLOCKS: a row moved, a backup recalled, a journal carried out ===== -/
section EG
variable {R nd : Nat} {g : GS} {t : MS} {U : Int32}
/-! a row moved -/
def ME (nd F : Nat) (nv : Nat → Int64) (g G : GS) (k : Nat) : Prop := (∀ d, d < k → lvD nd g d → G.2.2 4 d F = nv d) ∧ (∀ d r, ¬ (r = F ∧ d < k ∧ lvD nd g d) → G.2.2 4 d r = g.2.2 4 d r) ∧ (∀ q, ¬ q = 4 → G.2.2 q = g.2.2 q) ∧ ∀ q, ¬ q = 11 → G.2.1 q = g.2.1 q
theorem ix_lo : ∀ k, k < 10 → ∀ p, p < 10 → ∀ M, M < 11 → k < p → p < M → nI k - nI p - 1 + nI M = nI (k + M - p - 1) := by decide +kernel
theorem ef_mr_l {M F p : Nat} {acc : Int64} {rv : Nat → Int64} (hnd : nd ≤ 10) (hM : M ≤ nd) (hp : p < M) (hF : F < R) (hR : R ≤ 48) (hnr : ∀ d, d < nd → ¬ (g.2.1 10 d = 0 ∧ g.2.1 0 d = 0 ∧ ¬ g.1 3 ≤ nI F)) : ∀ (j k : Nat) (g1 : GS), k ≤ M → M < k + j → g1.1 1 = 1 → g1.1 3 = g.1 3 → (∀ i, i < M - 1 → g1.2.2 1 0 i = rv i) → ME nd F (fun d => if d = p then acc else rv (idx M p d)) g g1 k →
    ∃ k2, k2 ≤ M ∧ ME nd F (fun d => if d = p then acc else rv (idx M p d)) g (gg_4_writeMovedRow_51 R nd (nI F) (nI M) j k acc (nI p) g1) k2 ∧ (((gg_4_writeMovedRow_51 R nd (nI F) (nI M) j k acc (nI p) g1).1 1 = 1 ∧ k2 = M) ∨ (gg_4_writeMovedRow_51 R nd (nI F) (nI M) j k acc (nI p) g1).1 1 = 0) := by
  intro j
  induction j with
  | zero => intro k g1 h1 h2; omega
  | succ j ih =>
    intro k g1 h1 h2 hu e3 hv hS
    by_cases c : nI M ≤ nI k
    · have hk : M ≤ k := ndle c (by omega)
      rw [gg_4_writeMovedRow_51, if_pos c]
      exact ⟨k, h1, hS, Or.inl ⟨hu, by omega⟩⟩
    · have hk : k < M := nd_lt c (by omega)
      have red : gg_4_writeMovedRow_51 R nd (nI F) (nI M) (j + 1) k acc (nI p) g1 = gg_4_writeMovedRow_51 R nd (nI F) (nI M) j (k + 1) acc (nI p) (gf_4_writeBlock R nd g1 (nI k) (nI F) (if k = p then acc else rv (idx M p k))) := by
        rw [gg_4_writeMovedRow_51, if_neg c]
        by_cases c1 : k ≤ p
        · rw [if_pos (nI_le c1 (by omega))]
          by_cases c2 : k = p
          · rw [if_pos (by rw [c2]), if_pos c2]
          · rw [if_neg (fun q => c2 ((nI_eq (by omega) (by omega)).mp q)), if_neg c2, ix_lo k (by omega) p (by omega) M (by omega) (by omega) hp, if_neg (nI_pos (by omega)), if_neg (nI_ge (by omega) (by omega)), nI_clamp (by omega), hv _ (by omega)]
            unfold idx
            rw [if_neg (by omega)]
        · rw [if_neg (nI_ge (by omega) (by omega)), if_neg (fun q => (show ¬ k = p by omega) ((nI_eq (by omega) (by omega)).mp q)), if_neg (show ¬ k = p by omega), pk_sub (by omega), nI_one, pk_sub (by omega), if_neg (nI_pos (by omega)), if_neg (nI_ge (by omega) (by omega)), nI_clamp (by omega), hv _ (by omega)]
          unfold idx
          rw [if_pos (by omega)]
      rw [red]
      have wk : wbl nd g1 k F ↔ lvD nd g k := by
        unfold wbl lvD
        rw [hS.2.2.2 0 (by decide), hS.2.2.2 10 (by decide), e3]
        exact ⟨fun q => q.elim id (fun z => absurd z.2 (hnr k z.1)), Or.inl⟩
      have gk := (GF_wb (R := R) (g := g1) (d0 := nI k) (row := nI F) (v := if k = p then acc else rv (idx M p k)) hnd).1
      have k3 : (gf_4_writeBlock R nd g1 (nI k) (nI F) (if k = p then acc else rv (idx M p k))).1 3 = g.1 3 := (wb_keep 3 (by decide) (by decide) (by decide) (by decide)).trans e3
      rcases ef_wb (R := R) (g := g1) (d := k) (r := F) (v := if k = p then acc else rv (idx M p k)) (by omega) hnd hF hR hu with ⟨w1, w2⟩ | ⟨w1, ⟨w2, w3⟩ | ⟨w2, w3⟩⟩
      · rw [w2]
        have nl : ¬ lvD nd g k := fun q => w1 (wk.mpr q)
        refine ih (k + 1) g1 (by omega) (by omega) hu e3 hv ⟨fun d x1 x2 => hS.1 d ?_ x2, fun d r x1 => hS.2.1 d r (fun q => x1 ⟨q.1, by omega, q.2.2⟩), hS.2.2⟩
        rcases Nat.lt_or_ge d k with q | q
        · exact q
        · exact absurd (show lvD nd g k by rw [← show d = k by omega]; exact x2) nl
      · generalize gf_4_writeBlock R nd g1 (nI k) (nI F) (if k = p then acc else rv (idx M p k)) = g2 at w2 w3 gk k3
        refine ih (k + 1) g2 (by omega) (by omega) w2 k3 (fun i hi => ?_) ⟨fun d x1 x2 => ?_, fun d r x1 => ?_, fun q x1 => ?_, fun q x1 => ?_⟩
        · rw [w3, ← hv i hi]
          simp [gli, va_up]
        · rw [w3]
          by_cases e : d = k
          · subst e
            simp [gli, va_up]
          · rw [← hS.1 d (by omega) x2]
            simp [gli, va_up, e]
        · rw [w3, ← hS.2.1 d r (fun q => x1 ⟨q.1, by omega, q.2.2⟩)]
          by_cases e : d = k
          · subst e
            have : ¬ r = F := fun q => x1 ⟨q, by omega, wk.mp w1⟩
            simp [gli, va_up, this]
          · simp [gli, va_up, e]
        · rw [w3, ← hS.2.2.1 q x1]
          simp [gli, va_up, x1]
        · rw [gk q (by simp only [a11]; exact x1)]
          exact hS.2.2.2 q x1
      · have : gg_4_writeMovedRow_51 R nd (nI F) (nI M) j (k + 1) acc (nI p) (gf_4_writeBlock R nd g1 (nI k) (nI F) (if k = p then acc else rv (idx M p k))) = gf_4_writeBlock R nd g1 (nI k) (nI F) (if k = p then acc else rv (idx M p k)) := dn_mr_l _ _ _ _ _ w2
        rw [this]
        refine ⟨k, h1, ⟨fun d x1 x2 => by rw [w3]; exact hS.1 d x1 x2, fun d r x1 => by rw [w3]; exact hS.2.1 d r x1, fun q x1 => by rw [w3]; exact hS.2.2.1 q x1, fun q x1 => ?_⟩, Or.inr w2⟩
        rw [gk q (by simp only [a11]; exact x1)]
        exact hS.2.2.2 q x1
theorem mr_acc2 {M F : Nat} {pd : Int32} (hM : M ≤ 10) (hM3 : 3 ≤ M) : ∀ (j k : Nat), k ≤ M - 1 → M - 1 < k + j → gg_4_writeMovedRow_12 R nd (nI F) (nI M) j k (xr (g.2.2 1 0) k) pd g = gg_4_writeMovedRow_51 R nd (nI F) (nI M) (M + 1) 0 (xr (g.2.2 1 0) (M - 1)) pd g := by
  intro j
  induction j with
  | zero => intro k h1 h2; omega
  | succ j ih =>
    intro k h1 h2
    rw [gg_4_writeMovedRow_12, nI_clamp (by omega), nI_one, pk_sub (by omega)]
    by_cases c : nI (M - 1) ≤ nI k
    · have hk : M - 1 ≤ k := ndle c (by omega)
      rw [if_pos c, show k = M - 1 by omega]
    · have hk : k < M - 1 := nd_lt c (by omega)
      rw [if_neg c, if_neg (nI_ge (by omega) (by omega))]
      exact ih (k + 1) (by omega) (by omega)
theorem ef_mr {M F : Nat} {rv : Nat → Int64} (hnd : nd ≤ 10) (hM3 : 3 ≤ M) (hM : M ≤ nd) (hF : F < R) (hR : R ≤ 48) (hnr : ∀ d, d < nd → ¬ (g.2.1 10 d = 0 ∧ g.2.1 0 d = 0 ∧ ¬ g.1 3 ≤ nI F)) (hu : g.1 1 = 1) (hv : ∀ i, i < M - 1 → g.2.2 1 0 i = rv i) :
    ∃ k, k ≤ M ∧ ME nd F (fun d => if d = prN M F then xr rv (M - 1) else rv (idx M (prN M F) d)) g (gf_4_writeMovedRow R nd g (nI F) (nI M)) k ∧ (((gf_4_writeMovedRow R nd g (nI F) (nI M)).1 1 = 1 ∧ k = M) ∨ (gf_4_writeMovedRow R nd g (nI F) (nI M)).1 1 = 0) := by
  unfold gf_4_writeMovedRow
  rw [gp_parity hM3 (by omega) (by omega)]
  have e := mr_acc2 (R := R) (nd := nd) (g := g) (F := F) (pd := nI (M - 1 - F % M)) (by omega) hM3 11 0 (by omega) (by omega)
  have e0 : xr (g.2.2 1 0) 0 = 0 := rfl
  rw [e0] at e
  rw [e, xr_congr (g := rv) (M - 1) hv]
  exact ef_mr_l (p := prN M F) hnd hM (pr_lt (by omega)) hF hR hnr (M + 1) 0 g (by omega) (by omega) hu rfl hv ⟨fun d hd => by omega, fun _ _ _ => rfl, fun _ _ => rfl, fun _ _ => rfl⟩
/-! a backup recalled -/
theorem cto_l {d : Nat} : ∀ (j k : Nat) (g1 : GS), k ≤ 10 → 10 < k + j → (∀ z, ¬ z = 1 → (gg_0_copyTo_b_v_2 R nd d j k g1).2.2 z = g1.2.2 z) ∧ (∀ i, k ≤ i → i < 10 → (gg_0_copyTo_b_v_2 R nd d j k g1).2.2 1 0 i = g1.2.2 3 d i) ∧ ∀ i, i < k → (gg_0_copyTo_b_v_2 R nd d j k g1).2.2 1 0 i = g1.2.2 1 0 i := by
  intro j
  induction j with
  | zero => intro k g1 h1 h2; omega
  | succ j ih =>
    intro k g1 h1 h2
    rw [gg_0_copyTo_b_v_2]
    by_cases c : nI 10 ≤ nI k
    · have hk : 10 ≤ k := ndle c (by omega)
      rw [if_pos c]
      exact ⟨fun _ _ => rfl, fun i h3 h4 => by omega, fun _ _ => rfl⟩
    · have hk : k < 10 := nd_lt c (by omega)
      rw [if_neg c, if_neg c]
      obtain ⟨a1, a3, a4⟩ := ih (k + 1) (gli g1 1 0 k (g1.2.2 3 d k)) (by omega) (by omega)
      refine ⟨fun z hz => ?_, fun i h3 h4 => ?_, fun i hi => ?_⟩
      · rw [a1 z hz]
        simp [gli, va_up, hz]
      · rcases Nat.lt_or_ge k i with q | q
        · rw [a3 i q h4]
          simp [gli, va_up]
        · have e : i = k := by omega
          subst e
          rw [a4 i (by omega)]
          simp [gli, va_up]
      · rw [a4 i (by omega)]
        simp [gli, va_up, show ¬ i = k by omega]
theorem ef_rec_l (hnd : nd ≤ 10) : ∀ (j k : Nat), k ≤ nd → nd < k + j → (∀ q, ¬ q = 1 → (gg_4_recallBackup_2 R nd j k g).2.2.2 q = g.2.2 q) ∧ (((gg_4_recallBackup_2 R nd j k g).1 = 0 ∧ (gg_4_recallBackup_2 R nd j k g).2 = g ∧ ∀ d, k ≤ d → lvD nd g d → ¬ g.2.1 9 d = g.1 8) ∨ ((gg_4_recallBackup_2 R nd j k g).1 = 1 ∧ ∃ d, lvD nd g d ∧ g.2.1 9 d = g.1 8 ∧ ∀ i, i < 10 → (gg_4_recallBackup_2 R nd j k g).2.2.2 1 0 i = g.2.2 3 d i)) := by
  intro j
  induction j with
  | zero => intro k h1 h2; omega
  | succ j ih =>
    intro k h1 h2
    rw [gg_4_recallBackup_2]
    by_cases c : nI nd ≤ nI k
    · have hk : nd ≤ k := ndle c (by omega)
      rw [if_pos c]
      exact ⟨fun _ _ => rfl, Or.inl ⟨rfl, rfl, fun d h3 h4 => by have := h4.1; omega⟩⟩
    · have hk : k < nd := nd_lt c (by omega)
      rw [if_neg c]
      have lk := lvk_iff (R := R) (g := g) hk hnd
      have step : (lvD nd g k → ¬ g.2.1 9 k = g.1 8) → (∀ q, ¬ q = 1 → (gg_4_recallBackup_2 R nd j (k + 1) g).2.2.2 q = g.2.2 q) ∧ (((gg_4_recallBackup_2 R nd j (k + 1) g).1 = 0 ∧ (gg_4_recallBackup_2 R nd j (k + 1) g).2 = g ∧ ∀ d, k ≤ d → lvD nd g d → ¬ g.2.1 9 d = g.1 8) ∨ ((gg_4_recallBackup_2 R nd j (k + 1) g).1 = 1 ∧ ∃ d, lvD nd g d ∧ g.2.1 9 d = g.1 8 ∧ ∀ i, i < 10 → (gg_4_recallBackup_2 R nd j (k + 1) g).2.2.2 1 0 i = g.2.2 3 d i)) := by
        intro hz
        obtain ⟨a1, a2⟩ := ih (k + 1) (by omega) (by omega)
        refine ⟨a1, a2.imp (fun q => ⟨q.1, q.2.1, fun d h3 h4 => ?_⟩) id⟩
        rcases Nat.lt_or_ge k d with z | z
        · exact q.2.2 d z h4
        · have e : d = k := by omega
          rw [e] at h4 ⊢
          exact hz h4
      by_cases c0 : lvD nd g k
      · rw [if_neg (fun q => lk.mp q c0)]
        by_cases cb : g.2.1 9 k = g.1 8
        · rw [if_pos cb]
          obtain ⟨a1, a2, -⟩ := cto_l (R := R) (nd := nd) (d := k) 11 0 g (by omega) (by omega)
          exact ⟨a1, Or.inr ⟨rfl, k, c0, cb, fun i hi => a2 i (by omega) hi⟩⟩
        · rw [if_neg cb]
          exact step (fun _ => cb)
      · rw [if_pos (lk.mpr c0)]
        exact step (fun q => absurd q c0)
/-! a journal carried out, on both sides -/
def c2 (g : GS) : Nat → Nat
  | 0 => 0
  | k + 1 => if gf_1_isLive_d 0 0 g k = 0 then c2 g k else c2 g k + 1
theorem c2_mono (g : GS) (k : Nat) : ∀ m, c2 g k ≤ c2 g (k + m)
  | 0 => Nat.le_refl _
  | m + 1 => by
    have := c2_mono g k m
    show c2 g k ≤ (if gf_1_isLive_d 0 0 g (k + m) = 0 then c2 g (k + m) else c2 g (k + m) + 1)
    split <;> omega
theorem c2_le {a b : Nat} (h : a ≤ b) : c2 g a ≤ c2 g b := by
  have := c2_mono g a (b - a)
  rw [show a + (b - a) = b by omega] at this
  exact this
def JE (nd : Nat) (a : Int32) (v : Int64) (g : GS) (t : MS) (G : GS) (T : MS) (k : Nat) : Prop :=
  (∀ d, d < k → lvD nd g d → c2 g d < 2 → G.2.1 4 d = g.1 12 ∧ G.2.1 5 d = g.1 13 ∧ G.2.1 6 d = g.1 14 ∧ G.2.1 7 d = g.1 15 ∧ G.2.1 8 d = g.1 16 ∧ G.2.2 2 d 0 = g.2.2 0 0 0 ∧ G.2.2 2 d 1 = g.2.2 0 0 1 ∧ T.2.1 8 d = a ∧ T.2.2 0 d = v) ∧
  (∀ d, ¬ (d < k ∧ lvD nd g d ∧ c2 g d < 2) → G.2.1 4 d = g.2.1 4 d ∧ G.2.1 5 d = g.2.1 5 d ∧ G.2.1 6 d = g.2.1 6 d ∧ G.2.1 7 d = g.2.1 7 d ∧ G.2.1 8 d = g.2.1 8 d ∧ G.2.2 2 d = g.2.2 2 d ∧ T.2.1 8 d = t.2.1 8 d ∧ T.2.2 0 d = t.2.2 0 d) ∧
  (∀ q, q < 4 ∨ q = 9 ∨ q = 10 → G.2.1 q = g.2.1 q) ∧ (∀ q, ¬ q = 2 → ¬ q = 4 → G.2.2 q = g.2.2 q)
theorem JE.to {a : Int32} {v : Int64} {G G' : GS} {T T' : MS} {k : Nat} (h : JE nd a v g t G T k) (h1 : ∀ q, ¬ q = 11 → G'.2.1 q = G.2.1 q) (h2 : ∀ q, ¬ q = 4 → G'.2.2 q = G.2.2 q) (h3 : T'.2.1 8 = T.2.1 8) (h4 : T'.2.2 0 = T.2.2 0) : JE nd a v g t G' T' k := by
  unfold JE at *
  rw [h1 4 (by decide), h1 5 (by decide), h1 6 (by decide), h1 7 (by decide), h1 8 (by decide), h2 2 (by decide), h3, h4]
  exact ⟨h.1, h.2.1, fun q hq => by rw [h1 q (by omega)]; exact h.2.2.1 q hq, fun q x1 x2 => by rw [h2 q x2]; exact h.2.2.2 q x1 x2⟩
theorem tj_l {k : Nat} : (∀ q, ¬ q = 2 → (gf_1_takeJournal_d_r R nd g k).2.2 q = g.2.2 q) ∧ (∀ d, ¬ d = k → (gf_1_takeJournal_d_r R nd g k).2.2 2 d = g.2.2 2 d) ∧ (gf_1_takeJournal_d_r R nd g k).2.2 2 k 0 = g.2.2 0 0 0 ∧ (gf_1_takeJournal_d_r R nd g k).2.2 2 k 1 = g.2.2 0 0 1 := by
  refine ⟨fun q hq => ?_, fun d hd => ?_, ?_, ?_⟩
  · simp [gf_1_takeJournal_d_r, gf_2_copyFrom_j_r, gf_2_tell_j, gli, gdi, va_up, hq]
  · simp [gf_1_takeJournal_d_r, gf_2_copyFrom_j_r, gf_2_tell_j, gli, gdi, va_up, hd]
  · simp [gf_1_takeJournal_d_r, gf_2_copyFrom_j_r, gf_2_tell_j, gli, gdi, va_up]
  · simp [gf_1_takeJournal_d_r, gf_2_copyFrom_j_r, gf_2_tell_j, gli, gdi, va_up]
/-- the end of it: the two blocks -/
def t2b (R nd : Nat) (t : MS) (a : Int32) (v : Int64) : Int32 × MS := (if (mf_block R nd t (mf_diskOf R nd t a) (mf_rowOf R nd t a)).1 = 0 then ((0 : Int32), (mf_block R nd t (mf_diskOf R nd t a) (mf_rowOf R nd t a)).2) else if (mf_block R nd (mf_block R nd t (mf_diskOf R nd t a) (mf_rowOf R nd t a)).2 (mf_parityOf R nd (mf_block R nd t (mf_diskOf R nd t a) (mf_rowOf R nd t a)).2 a) (mf_rowOf R nd (mf_block R nd t (mf_diskOf R nd t a) (mf_rowOf R nd t a)).2 a)).1 = 0 then (0, (mf_block R nd (mf_block R nd t (mf_diskOf R nd t a) (mf_rowOf R nd t a)).2 (mf_parityOf R nd (mf_block R nd t (mf_diskOf R nd t a) (mf_rowOf R nd t a)).2 a) (mf_rowOf R nd (mf_block R nd t (mf_diskOf R nd t a) (mf_rowOf R nd t a)).2 a)).2) else (1, tl (mf_block R nd (mf_block R nd t (mf_diskOf R nd t a) (mf_rowOf R nd t a)).2 (mf_parityOf R nd (mf_block R nd t (mf_diskOf R nd t a) (mf_rowOf R nd t a)).2 a) (mf_rowOf R nd (mf_block R nd t (mf_diskOf R nd t a) (mf_rowOf R nd t a)).2 a)).2 1 a.toNatClampNeg v))
def g2b (R nd : Nat) (g : GS) : GS := gf_4_writeBlock R nd (gf_4_writeBlock R nd g (g.1 15) (g.1 14) (g.2.2 0 0 0)) ((gf_4_writeBlock R nd g (g.1 15) (g.1 14) (g.2.2 0 0 0)).1 16) ((gf_4_writeBlock R nd g (g.1 15) (g.1 14) (g.2.2 0 0 0)).1 14) ((gf_4_writeBlock R nd g (g.1 15) (g.1 14) (g.2.2 0 0 0)).2.2 0 0 1)
theorem t2b_keep {a : Int32} {v : Int64} : (t2b R nd t a v).2.2.1 8 = t.2.1 8 ∧ (t2b R nd t a v).2.2.2 0 = t.2.2 0 ∧ ((t2b R nd t a v).1 = 0 → (t2b R nd t a v).2.2.2 1 = t.2.2 1) ∧ (¬ (t2b R nd t a v).1 = 0 → (t2b R nd t a v).2.2.2 1 = va_up (t.2.2 1) a.toNatClampNeg v) := by
  have b1 := mf_block_keep (R := R) (nd := nd) t (mf_diskOf R nd t a) (mf_rowOf R nd t a)
  unfold t2b
  generalize mf_block R nd t (mf_diskOf R nd t a) (mf_rowOf R nd t a) = r1 at b1
  have b2 := mf_block_keep (R := R) (nd := nd) r1.2 (mf_parityOf R nd r1.2 a) (mf_rowOf R nd r1.2 a)
  generalize mf_block R nd r1.2 (mf_parityOf R nd r1.2 a) (mf_rowOf R nd r1.2 a) = r2 at b2
  have p8 : ¬ aPok 8 := by simp only [aPok]; omega
  split
  · exact ⟨b1.2.1 8 p8, by rw [b1.2.2], fun _ => by rw [b1.2.2], fun q => absurd rfl q⟩
  · split
    · exact ⟨(b2.2.1 8 p8).trans (b1.2.1 8 p8), by rw [b2.2.2, b1.2.2], fun _ => by rw [b2.2.2, b1.2.2], fun q => absurd rfl q⟩
    · refine ⟨(b2.2.1 8 p8).trans (b1.2.1 8 p8), ?_, fun q => absurd (show (1 : Int32) = 0 from q) (by decide), fun _ => ?_⟩
      · show (tl r2.2 1 a.toNatClampNeg v).2.2 0 = _
        rw [← b1.2.2, ← b2.2.2]
        simp [tl, va_up]
      · show (tl r2.2 1 a.toNatClampNeg v).2.2 1 = _
        rw [← b1.2.2, ← b2.2.2]
        simp [tl, va_up]
theorem g2b_eff {r x y : Nat} (hnd : nd ≤ 10) (hR : R ≤ 48) (hr : r < R) (hx : x < nd) (hy : y < nd) (hxy : ¬ x = y) (hu : g.1 1 = 1) (h14 : g.1 14 = nI r) (h15 : g.1 15 = nI x) (h16 : g.1 16 = nI y) :
    (∀ q, ¬ q = 11 → (g2b R nd g).2.1 q = g.2.1 q) ∧ (∀ q, ¬ q = 4 → (g2b R nd g).2.2 q = g.2.2 q) ∧ (∀ d r', ¬ (r' = r ∧ (d = x ∨ d = y)) → (g2b R nd g).2.2 4 d r' = g.2.2 4 d r') ∧ ((g2b R nd g).1 1 = 1 → (wbl nd g x r → (g2b R nd g).2.2 4 x r = g.2.2 0 0 0) ∧ (wbl nd g y r → (g2b R nd g).2.2 4 y r = g.2.2 0 0 1)) := by
  unfold g2b
  rw [wb_keep 16 (by decide) (by decide) (by decide) (by decide), wb_keep 14 (by decide) (by decide) (by decide) (by decide), h14, h15, h16]
  have k1 := (GF_wb (R := R) (g := g) (d0 := nI x) (row := nI r) (v := g.2.2 0 0 0) hnd).1
  have s3 : (gf_4_writeBlock R nd g (nI x) (nI r) (g.2.2 0 0 0)).1 3 = g.1 3 := wb_keep 3 (by decide) (by decide) (by decide) (by decide)
  have e1 := ef_wb (R := R) (g := g) (d := x) (r := r) (v := g.2.2 0 0 0) hx hnd hr hR hu
  have d1 := dn_wb (R := R) (nd := nd) (g := gf_4_writeBlock R nd g (nI x) (nI r) (g.2.2 0 0 0)) (d0 := nI y) (row := nI r) (v := (gf_4_writeBlock R nd g (nI x) (nI r) (g.2.2 0 0 0)).2.2 0 0 1)
  generalize gf_4_writeBlock R nd g (nI x) (nI r) (g.2.2 0 0 0) = g1 at k1 e1 d1 s3 ⊢
  have A : (∀ q, ¬ q = 4 → g1.2.2 q = g.2.2 q) ∧ (∀ d r', ¬ (r' = r ∧ d = x) → g1.2.2 4 d r' = g.2.2 4 d r') ∧ ((g1.1 1 = 1 ∧ (wbl nd g x r → g1.2.2 4 x r = g.2.2 0 0 0)) ∨ g1.1 1 = 0) := by
    rcases e1 with ⟨w1, w2⟩ | ⟨w1, ⟨w2, w3⟩ | ⟨w2, w3⟩⟩
    · rw [w2]
      exact ⟨fun _ _ => rfl, fun _ _ _ => rfl, Or.inl ⟨hu, fun q => absurd q w1⟩⟩
    · rw [w3]
      refine ⟨fun q hq => by simp [gli, va_up, hq], fun d r' hq => ?_, Or.inl ⟨w2, fun _ => by simp [gli, va_up]⟩⟩
      by_cases e : d = x
      · have : ¬ r' = r := fun z => hq ⟨z, e⟩
        simp [gli, va_up, this, e]
      · simp [gli, va_up, e]
    · rw [w3]
      exact ⟨fun _ _ => rfl, fun _ _ _ => rfl, Or.inr w2⟩
  obtain ⟨A1, A2, A3⟩ := A
  rcases A3 with ⟨A3, A4⟩ | A3
  · have k2 := (GF_wb (R := R) (g := g1) (d0 := nI y) (row := nI r) (v := g1.2.2 0 0 1) hnd).1
    have e2 := ef_wb (R := R) (g := g1) (d := y) (r := r) (v := g1.2.2 0 0 1) hy hnd hr hR A3
    have wy : wbl nd g1 y r ↔ wbl nd g y r := by
      unfold wbl lvD
      rw [k1 0 (by simp only [a11]; decide), k1 10 (by simp only [a11]; decide), s3]
    have e00 : g1.2.2 0 0 1 = g.2.2 0 0 1 := by rw [A1 0 (by decide)]
    generalize gf_4_writeBlock R nd g1 (nI y) (nI r) (g1.2.2 0 0 1) = g2 at k2 e2 ⊢
    refine ⟨fun q hq => (k2 q (by simp only [a11]; exact hq)).trans (k1 q (by simp only [a11]; exact hq)), ?_⟩
    rcases e2 with ⟨w1, w2⟩ | ⟨w1, ⟨w2, w3⟩ | ⟨w2, w3⟩⟩
    · rw [w2]
      exact ⟨A1, fun d r' hq => A2 d r' (fun z => hq ⟨z.1, Or.inl z.2⟩), fun _ => ⟨A4, fun q => absurd (wy.mpr q) w1⟩⟩
    · rw [w3]
      refine ⟨fun q hq => by rw [← A1 q hq]; simp [gli, va_up, hq], fun d r' hq => ?_, fun _ => ⟨fun q => ?_, fun _ => by rw [← e00]; simp [gli, va_up]⟩⟩
      · rw [← A2 d r' (fun z => hq ⟨z.1, Or.inl z.2⟩)]
        by_cases e : d = y
        · have : ¬ r' = r := fun z => hq ⟨z, Or.inr e⟩
          simp [gli, va_up, this, e]
        · simp [gli, va_up, e]
      · rw [← A4 q]
        simp [gli, va_up, hxy]
    · rw [w3]
      exact ⟨A1, fun d r' hq => A2 d r' (fun z => hq ⟨z.1, Or.inl z.2⟩), fun q => absurd (w2.symm.trans q) (by decide)⟩
  · rw [d1 A3]
    exact ⟨fun q hq => k1 q (by simp only [a11]; exact hq), A1, fun d r' hq => A2 d r' (fun z => hq ⟨z.1, Or.inl z.2⟩), fun q => absurd (A3.symm.trans q) (by decide)⟩
theorem ef_jl {q a : Int32} {v : Int64} (hnd : nd ≤ 10) (hgv : g.2.2 0 0 0 = v) : ∀ (j k : Nat) (told : Int32) (g1 : GS) (t1 : MS), k ≤ nd → nd < k + j → MM nd nd g1 t1 → g1.1 1 = 1 → g1.1 12 = t1.1 1 → g1.1 13 = q → (∀ i, 12 ≤ i → g1.1 i = g.1 i) → g1.1 3 = g.1 3 → t1.1 1 = t.1 1 → t1.1 2 = t.1 2 → t1.1 3 = t.1 3 → t1.1 4 = t.1 4 → told = nI (c2 g k) → JE nd a v g t g1 t1 k → g1.2.2 4 = g.2.2 4 → t1.2.2 1 = t.2.2 1 →
    (∃ k2, k2 ≤ nd ∧ JE nd a v g t (gg_4_carryOutOrder_4 R nd j k told g1) (mg_journaled_6 R nd q a v j k told t1).2 k2 ∧ (gg_4_carryOutOrder_4 R nd j k told g1).1 1 = 0 ∧ (mg_journaled_6 R nd q a v j k told t1).1 = 0 ∧ (gg_4_carryOutOrder_4 R nd j k told g1).2.2 4 = g.2.2 4 ∧ (mg_journaled_6 R nd q a v j k told t1).2.2.2 1 = t.2.2 1) ∨
    (∃ g2 t2, gg_4_carryOutOrder_4 R nd j k told g1 = g2b R nd g2 ∧ mg_journaled_6 R nd q a v j k told t1 = t2b R nd t2 a v ∧ JE nd a v g t g2 t2 nd ∧ MM nd nd g2 t2 ∧ g2.1 1 = 1 ∧ (∀ i, 12 ≤ i → g2.1 i = g.1 i) ∧ g2.1 3 = g.1 3 ∧ g2.2.2 4 = g.2.2 4 ∧ t2.2.2 1 = t.2.2 1 ∧ t2.1 1 = t.1 1 ∧ t2.1 2 = t.1 2 ∧ t2.1 3 = t.1 3 ∧ t2.1 4 = t.1 4) := by
  intro j
  induction j with
  | zero => intro k told g1 t1 h1 h2; omega
  | succ j ih =>
    intro k told g1 t1 h1 h2 h hu h12 h13 hO h3 ht1 ht2 ht3 ht4 hc hJ hB hV
    have cK : c2 g k ≤ k := by
      clear ih h h2 hc hJ h1
      induction k with
      | zero => exact Nat.le_refl _
      | succ k ihk =>
        show (if gf_1_isLive_d 0 0 g k = 0 then c2 g k else c2 g k + 1) ≤ _
        split <;> omega
    rw [gg_4_carryOutOrder_4, mg_journaled_6]
    by_cases c : nI nd ≤ nI k
    · rw [if_pos c, if_pos c]
      have hk : nd ≤ k := ndle c (by omega)
      have e : k = nd := by omega
      subst e
      exact Or.inr ⟨g1, t1, rfl, rfl, hJ, h, hu, hO, h3, hB, hV, ht1, ht2, ht3, ht4⟩
    · have hk : k < nd := nd_lt c (by omega)
      rw [if_neg c, if_neg c]
      by_cases c2' : 2 ≤ told
      · rw [if_pos c2', if_pos c2']
        have hc2 : 2 ≤ c2 g k := ndle (k := c2 g k) (nd := 2) (by rw [← hc]; exact c2') (by omega)
        refine Or.inr ⟨g1, t1, rfl, rfl, ⟨fun d x1 x2 x3 => hJ.1 d ?_ x2 x3, fun d x1 => hJ.2.1 d (fun z => x1 ⟨by omega, z.2⟩), hJ.2.2⟩, h, hu, hO, h3, hB, hV, ht1, ht2, ht3, ht4⟩
        rcases Nat.lt_or_ge d k with z | z
        · exact z
        · have := c2_le (g := g) z
          omega
      · rw [if_neg c2', if_neg c2']
        have hc2 : c2 g k < 2 := Nat.lt_of_not_le (fun z => c2' (by rw [hc]; exact nI_le (a := 2) z (by omega)))
        have lv := live_k (R := R) hk hnd (h.2.1 k hk) (h.2.2.1 k hk (by omega))
        have lD : lvD nd g k ↔ t1.2.1 0 k = 0 := by
          have l9 := lvk_iff (R := R) (g := g1) hk hnd
          have e : lvD nd g1 k ↔ lvD nd g k := by
            unfold lvD
            rw [hJ.2.2.1 0 (by omega), hJ.2.2.1 10 (by omega)]
          rw [← e]
          constructor
          · intro z
            exact Classical.byContradiction (fun w => l9.mp (lv.mpr w) z)
          · intro z
            exact Classical.byContradiction (fun w => lv.mp (l9.mpr w) z)
        have lc : ¬ gf_1_isLive_d 0 0 g k = 0 ↔ lvD nd g k := by
          rw [lvd_iff]
          unfold lvD
          exact ⟨fun z => ⟨hk, Classical.not_not.mp z⟩, fun z w => w z.2⟩
        by_cases c0 : t1.2.1 0 k = 0
        · have lK := lD.mpr c0
          rw [if_pos c0, if_neg (fun q => (lv.mp q) c0)]
          by_cases cp : t1.1 6 = 0
          · obtain ⟨m1, m2, m3, m4, m5⟩ := MM_no (R := R) hnd h hu cp
            obtain ⟨-, -, l3, l4, -⟩ := lasts_no (R := R) hnd cp
            rw [pokes_no hnd cp, if_pos m2, if_pos rfl, dn_carry_l _ _ _ _ m4]
            refine Or.inl ⟨k, h1, hJ.to (fun q _ => by rw [spend_arr]) (fun q _ => by rw [spend_arr]) (l3 8 (by decide)) (by rw [l4]), m4, rfl, by rw [spend_arr]; exact hB, by show (mf_lasts R nd t1).2.2.2 1 = _; rw [l4]; exact hV⟩
          · rw [pokes_ok (by omega) cp, spend_ok hu (by rw [h.1.1]; exact cp), if_neg (show ¬ (1 : Int32) = 0 by decide), if_neg (show ¬ (1 : Int32) = 0 by decide), h.1.1]
            obtain ⟨e1, e2⟩ := takeJournal_eq (R := R) (nd := nd) (g := gsi (gsi g1 2 (dec9 (t1.1 6))) 5 (g1.1 5 + 1)) (k := k)
            obtain ⟨j1, j2, j3, j4⟩ := tj_l (R := R) (nd := nd) (g := gsi (gsi g1 2 (dec9 (t1.1 6))) 5 (g1.1 5 + 1)) (k := k)
            have hm := MM_jr (q := g1.1 13) (s := g1.1 12) (w := g1.1 14) (x := g1.1 15) (y := g1.1 16) (a := a) hk (MM_tick (v := dec9 (t1.1 6)) hk h)
            have hm2 := MM_ext e1 e2 hm
            rw [h12, h13] at hm2
            refine ih (k + 1) _ _ _ (by omega) (by omega) (MM_tl hm2) ?_ ?_ ?_ ?_ ?_ ht1 ht2 ht3 ht4 ?_ ⟨fun d x1 x2 x3 => ?_, fun d x1 => ?_, fun z hz => ?_, fun z x1 x2 => ?_⟩ ?_ ?_
            · rw [e1]; exact hu
            · rw [e1]; exact h12
            · rw [e1]; exact h13
            · intro i hi
              rw [e1, ← hO i hi]
              simp [gdi, gsi, va_up, show ¬ i = 2 by omega, show ¬ i = 5 by omega]
            · rw [e1]; exact h3
            · rw [hc, nI_1]
              congr 1
              show _ = (if gf_1_isLive_d 0 0 g k = 0 then c2 g k else c2 g k + 1)
              rw [if_neg (lc.mpr lK)]
            · by_cases ed : d = k
              · subst ed
                rw [e2, j3, j4, ← hO 12 (by decide), ← hO 13 (by decide), ← hO 14 (by decide), ← hO 15 (by decide), ← hO 16 (by decide)]
                have z0 : g1.2.2 0 = g.2.2 0 := hJ.2.2.2 0 (by decide) (by decide)
                simp [gdi, gsi, tl, ti, si, va_up, z0]
              · have := hJ.1 d (by omega) x2 x3
                rw [e2, j2 d ed]
                simp [gdi, gsi, tl, ti, si, va_up, ed]
                exact this
            · have ed : ¬ d = k := fun z => x1 ⟨by omega, by rw [z]; exact lK, by rw [z]; exact hc2⟩
              have := hJ.2.1 d (fun z => x1 ⟨by omega, z.2⟩)
              rw [e2, j2 d ed]
              simp [gdi, gsi, tl, ti, si, va_up, ed]
              exact this
            · rw [e2, ← hJ.2.2.1 z hz]
              simp [gdi, gsi, va_up, show ¬ z = 8 by omega, show ¬ z = 7 by omega, show ¬ z = 6 by omega, show ¬ z = 5 by omega, show ¬ z = 4 by omega, show ¬ z = 11 by omega]
            · rw [j1 z x1]
              exact hJ.2.2.2 z x1 x2
            · rw [j1 4 (by decide)]
              exact hB
            · rw [← hV]
              simp [tl, ti, si, va_up]
        · rw [if_neg c0, if_pos (lv.mpr c0)]
          have lN : ¬ lvD nd g k := fun z => c0 (lD.mp z)
          refine ih (k + 1) told g1 t1 (by omega) (by omega) h hu h12 h13 hO h3 ht1 ht2 ht3 ht4 ?_ ⟨fun d x1 x2 x3 => hJ.1 d ?_ x2 x3, fun d x1 => hJ.2.1 d (fun z => x1 ⟨by omega, z.2⟩), hJ.2.2⟩ hB hV
          · rw [hc]
            congr 1
            show _ = (if gf_1_isLive_d 0 0 g k = 0 then c2 g k else c2 g k + 1)
            rw [if_pos (Classical.byContradiction (fun z => lN (lc.mp z)))]
          · rcases Nat.lt_or_ge d k with z | z
            · exact z
            · exact absurd (show lvD nd g k by rw [← show d = k by omega]; exact x2) lN
end EG
