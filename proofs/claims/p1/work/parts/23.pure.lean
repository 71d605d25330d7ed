/-! ===== p1: the first call on a fresh object ===== -/
def II (R nd : Nat) (k nd2 : Nat) (g : GS) (md : Nat) (t : MS) : Prop := k = 0 → nd2 = nd ∧ md = nd ∧ g = g00 nd ∧ t = mf_init R nd
theorem II_0 (R nd : Nat) (hR9 : 2 ≤ R ∧ R ≤ 48) (hN : 3 ≤ nd ∧ nd ≤ 7) : II R nd 0 nd (g00 nd) nd (mf_init R nd) := fun _ => ⟨rfl, rfl, rfl, rfl⟩
/-- the reference, fresh -/
def FT (nd : Nat) (t : MS) : Prop := (t.1 1 = 1 ∧ t.1 2 = nI nd ∧ t.1 3 = nI nd ∧ t.1 4 = 0 ∧ t.1 5 = 1 ∧ t.1 6 = -1 ∧ t.1 7 = 0 ∧ t.1 8 = 0 ∧ t.1 9 = 0 ∧ t.1 10 = 0 ∧ t.1 11 = 0) ∧ (∀ d, t.2.1 0 d = 0) ∧ (∀ d, t.2.1 1 d = 0) ∧ (∀ d, t.2.1 6 d = 0) ∧ (∀ d, t.2.1 8 d = 0) ∧ (∀ d, t.2.1 9 d = 0) ∧ (∀ k i, t.2.2 k i = 0) ∧ ∀ d, d < nd → t.2.1 2 d = 1 ∧ t.2.1 3 d = nI nd ∧ t.2.1 4 d = nI nd
theorem mg_init_spec {R nd : Nat} (hnd : nd ≤ 10) : ∀ (j k : Nat) (t1 : MS), k ≤ nd → nd < k + j → (mg_init_175 R nd j k t1).1 = t1.1 ∧ (mg_init_175 R nd j k t1).2.2 = t1.2.2 ∧ (∀ q, ¬ (q = 2 ∨ q = 3 ∨ q = 4 ∨ q = 5) → (mg_init_175 R nd j k t1).2.1 q = t1.2.1 q) ∧ ∀ d, (k ≤ d → d < nd → (mg_init_175 R nd j k t1).2.1 2 d = 1 ∧ (mg_init_175 R nd j k t1).2.1 3 d = t1.1 2 ∧ (mg_init_175 R nd j k t1).2.1 4 d = t1.1 3) ∧ (d < k → (mg_init_175 R nd j k t1).2.1 2 d = t1.2.1 2 d ∧ (mg_init_175 R nd j k t1).2.1 3 d = t1.2.1 3 d ∧ (mg_init_175 R nd j k t1).2.1 4 d = t1.2.1 4 d) := by
  intro j
  induction j with
  | zero => intro k t1 h1 h2; omega
  | succ j ih =>
    intro k t1 h1 h2
    rw [mg_init_175]
    split
    · rename_i c
      have hk : nd ≤ k := ndle c (by omega)
      exact ⟨rfl, rfl, fun _ _ => rfl, fun d => ⟨fun h3 h4 => by omega, fun _ => ⟨rfl, rfl, rfl⟩⟩⟩
    · rename_i c
      have hk : k < nd := nd_lt c (by omega)
      obtain ⟨a1, a2, a3, a4⟩ := ih (k + 1) (mf_tells R nd t1 (nI k) 1 (t1.1 2) (t1.1 3) 0) (by omega) (by omega)
      have hc : (nI k).toNatClampNeg = k := nI_clamp (by omega)
      refine ⟨a1.trans rfl, a2.trans rfl, fun q hq => ?_, fun d => ⟨fun h3 h4 => ?_, fun h3 => ?_⟩⟩
      · rw [a3 q hq]
        simp only [not_or] at hq
        simp [mf_tells, ti, va_up, hq]
      · rcases Nat.lt_or_ge k d with q | q
        · exact (a4 d).1 q h4
        · have e : d = k := by omega
          subst e
          obtain ⟨b1, b2, b3⟩ := (a4 d).2 (by omega)
          rw [b1, b2, b3]
          simp [mf_tells, ti, va_up, hc]
      · obtain ⟨b1, b2, b3⟩ := (a4 d).2 (by omega)
        rw [b1, b2, b3]
        have e : ¬ d = k := by omega
        simp [mf_tells, ti, va_up, hc, e]
theorem FT_init (R nd : Nat) (hN : 3 ≤ nd ∧ nd ≤ 7) : FT nd (mf_init R nd) := by
  unfold mf_init
  obtain ⟨a1, a2, a3, a4⟩ := mg_init_spec (R := R) (nd := nd) (by omega) (nd + 1) 0 (si (si (si mt00 1 1) 2 (nI nd)) 3 (nI nd)) (by omega) (by omega)
  refine ⟨by rw [a1]; simp [si, va_up, mt00], fun d => by rw [a3 0 (by decide)]; rfl, fun d => by rw [a3 1 (by decide)]; rfl, fun d => by rw [a3 6 (by decide)]; rfl, fun d => by rw [a3 8 (by decide)]; rfl, fun d => by rw [a3 9 (by decide)]; rfl, fun k i => by rw [a2]; rfl, fun d hd => ?_⟩
  obtain ⟨b1, b2, b3⟩ := (a4 d).1 (by omega) hd
  rw [b1, b2, b3]
  simp [si, va_up]
section FRESH
variable {R nd : Nat} {t : MS}
theorem FT.si0 {v : Int32} (h : FT nd t) : FT nd (si t 0 v) := by
  obtain ⟨⟨h1, h2, h3, h4, h5, h6, h7, h8, h9, h10, h11⟩, r⟩ := h
  refine ⟨⟨?_, ?_, ?_, ?_, ?_, ?_, ?_, ?_, ?_, ?_, ?_⟩, r⟩ <;> first | exact h1 | exact h2 | exact h3 | exact h4 | exact h5 | exact h6 | exact h7 | exact h8 | exact h9 | exact h10 | exact h11
theorem fr_places (h : FT nd t) (hN : 3 ≤ nd ∧ nd ≤ 7) : mf_places R nd t = nI (R * (nd - 1)) := by
  unfold mf_places
  rw [h.1.2.1, nI_one, pk_sub (by omega), pk_mul]
theorem fr_gplaces (hN : 3 ≤ nd ∧ nd ≤ 7) : gf_4_placeCount R nd (g00 nd) = nI (R * (nd - 1)) := by
  unfold gf_4_placeCount
  rw [show (g00 nd).1 9 = nI nd from rfl, nI_one, pk_sub (by omega), pk_mul]
theorem fr_le (hR9 : 2 ≤ R ∧ R ≤ 48) (hN : 3 ≤ nd ∧ nd ≤ 7) : R * (nd - 1) ≤ 432 := Nat.le_trans (Nat.mul_le_mul hR9.2 (show nd - 1 ≤ 9 by omega)) (by decide)
theorem fr_rdy (hR9 : 2 ≤ R ∧ R ≤ 48) (hN : 3 ≤ nd ∧ nd ≤ 7) (h : FT nd t) : Rdy R nd (g00 nd) nd t := by
  have hle := fr_le hR9 hN
  refine ⟨by omega, by omega, by omega, Or.inr rfl, ⟨nd, nd, h.1.2.1, h.1.2.2.1, by omega, by omega, by omega, by omega⟩, fun x h0 h1 => ?_, ⟨_, hle, fr_places h hN⟩, ⟨_, hle, fr_gplaces hN⟩, ⟨0, by omega, h.2.1 0⟩, fun i hi _ => ⟨nd, nd, (h.2.2.2.2.2.2.2 i hi).2.1, (h.2.2.2.2.2.2.2 i hi).2.2, by omega, by omega, by omega, by omega⟩, fun i _ => ?_⟩
  · rw [fr_places h hN] at h1
    exact ix_lt h0 h1 hle (by decide)
  · rw [h.2.2.2.2.1 i]
    exact vp_in_nI (n := 0) (by decide) (by decide)
theorem fr_live {d : Nat} (hd : d < nd) {nd2 : Nat} : ¬ gf_1_isLive_d R nd2 (g00 nd) d = 0 := by
  unfold gf_1_isLive_d
  simp [g00, hd]
theorem fr_gnl (hN : 3 ≤ nd ∧ nd ≤ 7) : gf_4_diskNotLive R nd (g00 nd) = -1 := (gf_nl_iff (by omega)).mpr fun i hi => fr_live hi
theorem fr_mnl (hN : 3 ≤ nd ∧ nd ≤ 7) (h : FT nd t) : mf_notLive R nd t = -1 := (mf_notLive_iff (by omega)).mpr fun i hi => h.2.1 i
theorem fr_mrb (hN : 3 ≤ nd ∧ nd ≤ 7) (h : FT nd t) : mf_isRebuilding R nd t = 0 := (mf_isRebuilding_iff (by omega)).mpr fun i hi => by rw [h.2.1 i]; decide
theorem fr_grs : gf_4_isReshaped R nd (g00 nd) = 0 := by
  unfold gf_4_isReshaped
  exact if_pos (Int32.le_refl _)
theorem fr_mrs (h : FT nd t) : mf_isReshaped R nd t = 0 := by
  unfold mf_isReshaped
  rw [if_pos (h.1.2.2.1.trans h.1.2.1.symm)]
theorem fr_grb (hN : 3 ≤ nd ∧ nd ≤ 7) : gf_4_rebuildingDisk R nd (g00 nd) = -1 := by
  unfold gf_4_rebuildingDisk
  rw [if_pos (fr_gnl hN)]
theorem up1 : ¬ (1 : Int32) = 0 := by decide
theorem fr_up : ¬ (g00 nd).1 1 = 0 := up1
theorem fr_mup (h : FT nd t) : ¬ t.1 5 = 0 := by rw [h.1.2.2.2.2.1]; decide
/-! power that lasts -/
def UU (g : GS) : Prop := g.1 1 = 1 ∧ g.1 2 = -1
theorem UU_spend {g : GS} (h : UU g) : gf_4_spendWrite R nd g = (1, gsi g 5 (g.1 5 + 1)) := by
  unfold gf_4_spendWrite
  rw [if_neg (by rw [h.1]; decide), if_neg (by rw [h.2]; decide), if_pos (by rw [h.2]; decide)]
theorem UU_wb {g : GS} {d0 row : Int32} {v : Int64} (h : UU g) : UU (gf_4_writeBlock R nd g d0 row v) := by
  have e : UU (gf_4_spendWrite R nd g).2 := by rw [UU_spend h]; exact h
  have e2 : ∀ d, UU (gf_1_takeBlock_d R nd (gf_4_spendWrite R nd g).2 d row v) := fun d => by
    unfold UU
    rw [gk_takeBlock]
    exact e
  unfold gf_4_writeBlock
  repeat' split
  all_goals first | exact h | exact e | exact e2 _
theorem UU_cl : ∀ (j k : Nat) (told : Int32) (g1 : GS), UU g1 → UU (gg_4_carryOutOrder_4 R nd j k told g1) := by
  intro j
  induction j with
  | zero => intro k told g1 h; exact h
  | succ j ih =>
    intro k told g1 h
    have e : UU (gf_4_spendWrite R nd g1).2 := by rw [UU_spend h]; exact h
    rw [gg_4_carryOutOrder_4]
    repeat' split
    · exact UU_wb (UU_wb h)
    · exact UU_wb (UU_wb h)
    · exact ih _ _ _ h
    · exact ih _ _ _ e
    · exact ih _ _ _ e
theorem MU_lasts (h : t.1 6 = -1) : (mf_lasts R nd t).1 = 1 ∧ (mf_lasts R nd t).2.1 6 = -1 := by
  unfold mf_lasts
  rw [if_neg (by rw [h]; decide), if_pos (by rw [h]; decide), h]
  exact ⟨rfl, rfl⟩
theorem MU_pokes {d : Int32} (h : t.1 6 = -1) : (mf_pokes R nd t d).1 = 1 ∧ (mf_pokes R nd t d).2.1 6 = -1 := by
  obtain ⟨h1, h2⟩ := MU_lasts (R := R) (nd := nd) h
  unfold mf_pokes
  rw [if_neg (by rw [h1]; decide)]
  exact ⟨rfl, h2⟩
theorem MU_block {d row : Int32} (h : t.1 6 = -1) : (mf_block R nd t d row).1 = 1 ∧ (mf_block R nd t d row).2.1 6 = -1 := by
  obtain ⟨h1, h2⟩ := MU_pokes (R := R) (nd := nd) (d := d) h
  have h3 : ¬ (mf_pokes R nd t d).1 = 0 := by rw [h1]; decide
  unfold mf_block
  rw [if_neg h3]
  repeat' split
  all_goals first | exact ⟨rfl, h2⟩ | exact ⟨rfl, h⟩
theorem MU_jl {q a : Int32} {v : Int64} (hnd : nd ≤ 10) : ∀ (j k : Nat) (many : Int32) (t1 : MS), k ≤ nd → nd < k + j → t1.1 6 = -1 → (mg_journaled_6 R nd q a v j k many t1).1 = 1 := by
  intro j
  induction j with
  | zero => intro k many t1 h1 h2; omega
  | succ j ih =>
    intro k many t1 h1 h2 h
    obtain ⟨b1, b2⟩ := MU_block (R := R) (nd := nd) (d := mf_diskOf R nd t1 a) (row := mf_rowOf R nd t1 a) h
    have b3 : ¬ (mf_block R nd t1 (mf_diskOf R nd t1 a) (mf_rowOf R nd t1 a)).1 = 0 := by rw [b1]; decide
    have b4 := (MU_block (R := R) (nd := nd) (t := (mf_block R nd t1 (mf_diskOf R nd t1 a) (mf_rowOf R nd t1 a)).2) (d := mf_parityOf R nd ((mf_block R nd t1 (mf_diskOf R nd t1 a) (mf_rowOf R nd t1 a)).2) a) (row := mf_rowOf R nd ((mf_block R nd t1 (mf_diskOf R nd t1 a) (mf_rowOf R nd t1 a)).2) a) b2).1
    obtain ⟨p1, p2⟩ := MU_pokes (R := R) (nd := nd) (d := nI k) h
    have p3 : ¬ (mf_pokes R nd t1 (nI k)).1 = 0 := by rw [p1]; decide
    have b5 : ¬ (mf_block R nd ((mf_block R nd t1 (mf_diskOf R nd t1 a) (mf_rowOf R nd t1 a)).2) (mf_parityOf R nd ((mf_block R nd t1 (mf_diskOf R nd t1 a) (mf_rowOf R nd t1 a)).2) a) (mf_rowOf R nd ((mf_block R nd t1 (mf_diskOf R nd t1 a) (mf_rowOf R nd t1 a)).2) a)).1 = 0 := by rw [b4]; decide
    rw [mg_journaled_6, if_neg b3, if_neg b5, if_neg p3]
    by_cases c : nI nd ≤ nI k
    · rw [if_pos c]
    · have hk : k < nd := nd_lt c (by omega)
      rw [if_neg c]
      by_cases c2 : 2 ≤ many
      · rw [if_pos c2]
      · rw [if_neg c2]
        by_cases c3 : t1.2.1 0 k = 0
        · rw [if_pos c3]
          exact ih _ _ _ (by omega) (by omega) p2
        · rw [if_neg c3]
          exact ih _ _ _ (by omega) (by omega) h
/-! blocks are 0 -/
theorem fr_block {d : Nat} {row : Int32} : gf_1_blockAt_d R nd (g00 nd) d row = 0 := by
  unfold gf_1_blockAt_d
  repeat' split
  all_goals rfl
theorem fr_xl {n0 row lo : Int32} : ∀ (j k : Nat), gg_4_exclusiveOr_6 R nd (g00 nd) n0 row lo j k 0 = 0 := by
  intro j
  induction j with
  | zero => intro k; rfl
  | succ j ih =>
    intro k
    rw [gg_4_exclusiveOr_6, fr_block]
    repeat' split
    all_goals first | rfl | exact ih _
theorem fr_xor {n0 row lo : Int32} : gf_4_exclusiveOr R nd (g00 nd) n0 row lo = 0 := fr_xl _ _
theorem fr_value {x : Int32} : gf_4_valueOf R nd (g00 nd) x = 0 := by
  unfold gf_4_valueOf gf_4_blockOf
  split
  · exact fr_xor
  · exact fr_block
theorem fr_sl {pl : Int32} : ∀ (j k : Nat), gg_4_sum_14 R nd (g00 nd) j k 0 pl = 0 := by
  intro j
  induction j with
  | zero => intro k; rfl
  | succ j ih =>
    intro k
    rw [gg_4_sum_14, fr_value]
    split
    · rfl
    · exact ih _
theorem fr_msl : ∀ (j k : Nat) (t1 : MS), (∀ k i, t1.2.2 k i = 0) → (mg_sum_29 R nd j k 0 t1).1 = 0 ∧ (mg_sum_29 R nd j k 0 t1).2 = t1 := by
  intro j
  induction j with
  | zero => intro k t1 _; exact ⟨rfl, rfl⟩
  | succ j ih =>
    intro k t1 h
    rw [mg_sum_29, h 1 k]
    split
    · exact ⟨rfl, rfl⟩
    · exact ih _ _ h
theorem fr_al : ∀ (j k : Nat), gg_4_astray_20 R nd (g00 nd) j k 0 = 0 := by
  intro j
  induction j with
  | zero => intro k; rfl
  | succ j ih =>
    intro k
    rw [gg_4_astray_20, fr_xor, if_pos (show lg_cmp 0 0 = 0 from cmp0 rfl)]
    split
    · rfl
    · exact ih _
theorem not_lt_le {x y : Int32} (h : ¬ x < y) : y ≤ x := Int32.not_lt.mp h
theorem le_not_lt {x y : Int32} (h : y ≤ x) : ¬ x < y := Int32.not_lt.mpr h
theorem fr_place (h : FT nd t) (hN : 3 ≤ nd ∧ nd ≤ 7) {x : Int32} (h0 : ¬ x < 0) (h1 : x < mf_places R nd t) : ¬ gf_4_isPlace R nd (g00 nd) x = 0 := by
  rw [gp_isPlace0, fr_gplaces hN, ← fr_places h hN]
  intro q
  rcases q with q | q
  · exact h0 q
  · exact le_not_lt q h1
theorem fr_noplace (h : FT nd t) (hN : 3 ≤ nd ∧ nd ≤ 7) {x : Int32} (h1 : x < 0 ∨ ¬ x < mf_places R nd t) : gf_4_isPlace R nd (g00 nd) x = 0 := by
  rw [gp_isPlace0, fr_gplaces hN, ← fr_places h hN]
  rcases h1 with q | q
  · exact Or.inl q
  · exact Or.inr (not_lt_le q)
theorem ok1_write {I : Nat → Nat → GS → Nat → MS → Prop} (hI : ∀ nd g md t, I (0 + 1) nd g md t) (hR9 : 2 ≤ R ∧ R ≤ 48) (hN : 3 ≤ nd ∧ nd ≤ 7) (h : FT nd t) : Ok_write I R 0 nd (g00 nd) nd t := by
  intro y x v
  unfold lr_write mf_write mf_thrown
  rw [if_neg fr_up, if_neg (fr_mup h)]
  by_cases c0 : x < 0
  · rw [if_pos c0, if_pos (fr_noplace h hN (Or.inl c0))]
    exact ⟨rfl, fun q => absurd (show (2 : Int32) = 0 from q) (by decide), hI _ _ _ _⟩
  · rw [if_neg c0]
    by_cases c1 : x < mf_places R nd t
    · rw [if_pos c1, if_neg (fr_place h hN c0 c1)]
      have e1 : ¬ (gf_4_write R nd (g00 nd) x v).1 = 0 := by
        have : UU (gf_4_write R nd (g00 nd) x v).2 := UU_cl _ _ _ _ ⟨rfl, rfl⟩
        show ¬ (gf_4_write R nd (g00 nd) x v).2.1 1 = 0
        rw [this.1]
        decide
      have e2 := MU_jl (R := R) (nd := nd) (q := t.1 8 + 1) (a := x) (v := v) (by omega) (nd + 1) 0 0 (si (si t 0 0) 8 (t.1 8 + 1)) (by omega) (by omega) h.1.2.2.2.2.2.1
      have e3 : (mf_journaled R nd (si (si t 0 0) 8 (t.1 8 + 1)) (t.1 8 + 1) x v).1 = 1 := e2
      refine ⟨(mf_journaled_s 0 (by decide)).trans rfl, fun _ => ?_, hI _ _ _ _⟩
      show (if (gf_4_write R nd (g00 nd) x v).1 = 0 then (0 : Int64) else 1) = if (mf_journaled R nd (si (si t 0 0) 8 (t.1 8 + 1)) (t.1 8 + 1) x v).1 = 0 then 0 else 1
      rw [if_neg e1, if_neg (by rw [e3]; decide)]
    · rw [if_neg c1, if_pos (fr_noplace h hN (Or.inr c1))]
      exact ⟨rfl, fun q => absurd (show (2 : Int32) = 0 from q) (by decide), hI _ _ _ _⟩
theorem ok1_read {I : Nat → Nat → GS → Nat → MS → Prop} (hI : ∀ nd g md t, I (0 + 1) nd g md t) (hR9 : 2 ≤ R ∧ R ≤ 48) (hN : 3 ≤ nd ∧ nd ≤ 7) (h : FT nd t) : Ok_read I R 0 nd (g00 nd) nd t := by
  intro y x
  unfold lr_read mf_read mf_thrown
  rw [if_neg fr_up, if_neg (fr_mup h)]
  by_cases c0 : x < 0
  · rw [if_pos c0, if_pos (fr_noplace h hN (Or.inl c0))]
    exact ⟨rfl, fun q => absurd (show (2 : Int32) = 0 from q) (by decide), hI _ _ _ _⟩
  · rw [if_neg c0]
    by_cases c1 : x < mf_places R nd t
    · rw [if_pos c1, if_neg (fr_place h hN c0 c1)]
      refine ⟨rfl, fun _ => ?_, hI _ _ _ _⟩
      dsimp only
      rw [h.2.2.2.2.2.2.1 1 _]
      unfold gf_4_read
      exact fr_value
    · rw [if_neg c1, if_pos (fr_noplace h hN (Or.inr c1))]
      exact ⟨rfl, fun q => absurd (show (2 : Int32) = 0 from q) (by decide), hI _ _ _ _⟩
theorem nI_lt10 {n : Nat} (h : n < 10) : nI n < 10 := by
  rw [show (10 : Int32) = nI 10 from rfl]
  exact Int32.not_le.mp (nI_ge h (by decide))
theorem nI_ne10 {n : Nat} (h : n < 10) : ¬ nI n = 10 := fun e => by
  have := nI_lt10 h
  rw [e] at this
  exact absurd this (by decide)
theorem ok1_add {I : Nat → Nat → GS → Nat → MS → Prop} (hI : ∀ nd g md t, I (0 + 1) nd g md t) (hR9 : 2 ≤ R ∧ R ≤ 48) (hN : 3 ≤ nd ∧ nd ≤ 7) (h : FT nd t) : Ok_add I R 0 nd (g00 nd) nd t := by
  intro y
  have h6 : (si t 0 0).1 6 = -1 := h.1.2.2.2.2.2.1
  obtain ⟨l1, l2⟩ := MU_lasts (R := R) (nd := nd) h6
  have l3 : (mf_lasts R nd (si t 0 0)).2.1 0 = 0 := by
    unfold mf_lasts
    rw [if_neg (by rw [h6]; decide), if_pos (by rw [h6]; decide)]
    rfl
  unfold lr_add mf_add mf_thrown gf_4_add
  rw [if_neg fr_up, if_neg (fr_mup h), if_neg (nI_ne10 (by omega)), if_neg (by rw [l1]; decide), if_pos (nI_lt10 (by omega)), UU_spend (show UU (g00 nd) from ⟨rfl, rfl⟩), if_neg (show ¬ (1 : Int32) = 0 by decide)]
  exact ⟨by show nd + 1 ≤ 10; omega, l3, fun _ => rfl, hI _ _ _ _⟩
theorem ok1_grow {I : Nat → Nat → GS → Nat → MS → Prop} (hI : ∀ nd g md t, I (0 + 1) nd g md t) (hR9 : 2 ≤ R ∧ R ≤ 48) (hN : 3 ≤ nd ∧ nd ≤ 7) (h : FT nd t) : Ok_grow I R 0 nd (g00 nd) nd t := by
  intro y
  unfold lr_grow mf_grow mf_thrown gf_4_grow
  rw [if_neg fr_up, if_neg (fr_mup h), if_pos h.1.2.1.symm, if_pos (show nI nd ≤ (g00 nd).1 10 from Int32.le_refl _)]
  exact ⟨rfl, fun _ => rfl, hI _ _ _ _⟩
theorem ok1_step {I : Nat → Nat → GS → Nat → MS → Prop} (hI : ∀ nd g md t, I (0 + 1) nd g md t) (hR9 : 2 ≤ R ∧ R ≤ 48) (hN : 3 ≤ nd ∧ nd ≤ 7) (h : FT nd t) : Ok_step I R 0 nd (g00 nd) nd t := by
  intro y
  unfold lr_step mf_step mf_thrown gf_4_step
  rw [if_neg fr_up, if_neg (fr_mup h), if_pos fr_grs, if_pos (fr_mrs h.si0)]
  exact ⟨rfl, fun _ => rfl, hI _ _ _ _⟩
theorem ok1_fail {I : Nat → Nat → GS → Nat → MS → Prop} (hI : ∀ nd g md t, I (0 + 1) nd g md t) (hR9 : 2 ≤ R ∧ R ≤ 48) (hN : 3 ≤ nd ∧ nd ≤ 7) (h : FT nd t) : Ok_fail I R 0 nd (g00 nd) nd t := by
  intro y x
  unfold mf_fail gf_4_fail
  rw [if_pos (fr_gnl hN), if_pos (fr_mnl hN h.si0)]
  by_cases c0 : x < 0
  · rw [if_pos c0, if_pos (gp_there0.mpr (Or.inl c0))]
    exact ⟨rfl, hI _ _ _ _⟩
  · rw [if_neg c0]
    by_cases c1 : nI nd ≤ x
    · rw [if_pos c1, if_pos (gp_there0.mpr (Or.inr c1))]
      exact ⟨rfl, hI _ _ _ _⟩
    · rw [if_neg c1, if_neg (by rw [gp_there0]; intro q; rcases q with q | q; exact c0 q; exact c1 q)]
      exact ⟨rfl, hI _ _ _ _⟩
theorem ok1_replace {I : Nat → Nat → GS → Nat → MS → Prop} (hI : ∀ nd g md t, I (0 + 1) nd g md t) (hR9 : 2 ≤ R ∧ R ≤ 48) (hN : 3 ≤ nd ∧ nd ≤ 7) (h : FT nd t) : Ok_replace I R 0 nd (g00 nd) nd t := by
  intro y
  unfold mf_replace gf_4_replace
  rw [if_neg fr_up, if_neg (fr_mup h), if_pos (fr_gnl hN), if_pos (fr_mnl hN h.si0)]
  exact ⟨rfl, hI _ _ _ _⟩
theorem ok1_rebuild {I : Nat → Nat → GS → Nat → MS → Prop} (hI : ∀ nd g md t, I (0 + 1) nd g md t) (hR9 : 2 ≤ R ∧ R ≤ 48) (hN : 3 ≤ nd ∧ nd ≤ 7) (h : FT nd t) : Ok_rebuild I R 0 nd (g00 nd) nd t := by
  intro y
  unfold lr_rebuild mf_rebuild mf_thrown gf_4_rebuild
  rw [if_neg fr_up, if_neg (fr_mup h), if_pos (fr_grb hN), if_pos (fr_mrb hN h.si0)]
  exact ⟨rfl, fun _ => rfl, hI _ _ _ _⟩
theorem ok1_cut {I : Nat → Nat → GS → Nat → MS → Prop} (hI : ∀ nd g md t, I (0 + 1) nd g md t) : Ok_cut I R 0 nd (g00 nd) nd t := fun y x => hI _ _ _ _
theorem ok1_open {I : Nat → Nat → GS → Nat → MS → Prop} (hI : ∀ nd g md t, I (0 + 1) nd g md t) (h : FT nd t) : Ok_open I R 0 nd (g00 nd) nd t := by
  intro y
  unfold mf_open gf_4_open
  rw [if_neg fr_up, if_neg (fr_mup h)]
  exact ⟨rfl, hI _ _ _ _⟩
theorem fr_width (h : FT nd t) (x : Int32) : mf_isByM R nd t x = 0 ∧ mf_width R nd t x = nI nd := by
  have e : mf_isByM R nd t x = 0 := by
    unfold mf_isByM
    rw [if_pos (fr_mrs h)]
  refine ⟨e, ?_⟩
  unfold mf_width
  rw [if_pos e]
  exact h.1.2.1
theorem fr_gwidth {x : Int32} (h0 : ¬ x < 0) : gf_4_isMoved R nd (g00 nd) x = 0 ∧ gf_4_widthOf R nd (g00 nd) x = nI nd := by
  have e : gf_4_isMoved R nd (g00 nd) x = 0 := by
    unfold gf_4_isMoved
    refine if_pos ?_
    show (0 : Int32) * _ ≤ x
    rw [Int32.zero_mul]
    exact not_lt_le h0
  refine ⟨e, ?_⟩
  unfold gf_4_widthOf
  rw [if_pos e]
  rfl
theorem ok1_place {I : Nat → Nat → GS → Nat → MS → Prop} (hI : ∀ nd g md t, I (0 + 1) nd g md t) (hR9 : 2 ≤ R ∧ R ≤ 48) (hN : 3 ≤ nd ∧ nd ≤ 7) (h : FT nd t) : Ok_place I R 0 nd (g00 nd) nd t := by
  intro y x w
  refine ⟨?_, hI _ _ _ _⟩
  have h' := h.si0 (v := 0)
  unfold mf_place gf_4_place
  by_cases c0 : x < 0
  · rw [if_pos c0, if_pos (fr_noplace h hN (Or.inl c0))]
  · rw [if_neg c0]
    by_cases c1 : x < mf_places R nd (si t 0 0)
    · rw [if_pos c1, if_neg (fr_place h' hN c0 c1), (fr_gwidth c0).1, (fr_gwidth c0).2, (fr_width h' x).1]
      rw [fr_places h' hN] at c1
      obtain ⟨A, hA, rfl⟩ := vp_in_of (ix_lt c0 c1 (fr_le hR9 hN) (by decide)) (by decide)
      rw [gp_disk (by omega) (by omega) hA, gp_row (by omega) (by omega) hA, gp_parity (by omega) (by omega) (Nat.lt_of_le_of_lt (Nat.div_le_self _ _) hA), mf_diskOf_nI (fr_width h' _).2 (by omega) (by omega) hA, mf_rowOf_nI (fr_width h' _).2 (by omega) (by omega) hA, mf_parityOf_nI (fr_width h' _).2 (by omega) (by omega) hA]
      repeat' split
      all_goals first | rfl | contradiction
    · rw [if_neg c1, if_pos (fr_noplace h' hN (Or.inr c1))]
theorem ok1_disk {I : Nat → Nat → GS → Nat → MS → Prop} (hI : ∀ nd g md t, I (0 + 1) nd g md t) (hR9 : 2 ≤ R ∧ R ≤ 48) (hN : 3 ≤ nd ∧ nd ≤ 7) (h : FT nd t) : Ok_disk I R 0 nd (g00 nd) nd t := by
  intro y x w
  refine ⟨?_, hI _ _ _ _⟩
  unfold mf_disk gf_4_disk
  by_cases c0 : x < 0
  · rw [if_pos c0, if_pos (gp_there0.mpr (Or.inl c0))]
  · rw [if_neg c0]
    by_cases c1 : x < nI nd
    · rw [if_pos c1, if_neg (by rw [gp_there0]; intro q; rcases q with q | q; exact c0 q; exact le_not_lt q c1)]
      obtain ⟨d, hd, rfl⟩ := vp_in_of (ix_lt c0 c1 (Nat.le_refl nd) (by omega)) (by omega)
      have hc : (nI d).toNatClampNeg = d := nI_clamp (by omega)
      have s1 : gf_4_isSpare R nd (g00 nd) (nI d) = 0 := by
        unfold gf_4_isSpare
        exact if_pos c1
      have s2 : ¬ t.1 3 ≤ nI d := by rw [h.1.2.2.1]; exact Int32.not_le.mpr c1
      have s3 : gf_1_condition_d R nd (g00 nd) d = 0 := by
        unfold gf_1_condition_d gf_1_isRebuilding_d
        simp [g00, hd]
      have s4 : gf_0_isBlank_b R nd (g00 nd) d = 1 := by
        unfold gf_0_isBlank_b
        simp [g00]
      rw [hc, h.2.1 d, h.2.2.1 d, (h.2.2.2.2.2.2.2 d hd).1, h.2.2.2.1 d, h.2.2.2.2.2.1 d, s1, s3, s4, if_neg s2, show (g00 nd).2.1 11 d = 0 by simp [g00], show (g00 nd).2.1 10 d = 0 by simp [g00], show (g00 nd).2.1 0 d = 1 by simp [g00, hd], show (g00 nd).2.1 5 d = 0 by simp [g00], if_neg (show ¬ (0 : Int32) = 1 by decide)]
      repeat' split
      all_goals first | rfl | contradiction
    · rw [if_neg c1, if_pos (gp_there0.mpr (Or.inr (not_lt_le c1)))]
theorem ok1_count {I : Nat → Nat → GS → Nat → MS → Prop} (hI : ∀ nd g md t, I (0 + 1) nd g md t) (hR9 : 2 ≤ R ∧ R ≤ 48) (hN : 3 ≤ nd ∧ nd ≤ 7) (h : FT nd t) : Ok_count I R 0 nd (g00 nd) nd t := by
  intro y w
  refine ⟨?_, hI _ _ _ _⟩
  obtain ⟨h1, h2, h3, h4, h5, h6, h7, h8, h9, h10, h11⟩ := h.1
  unfold mf_count gf_4_count
  rw [fr_gplaces hN, fr_places h.si0 hN, fr_grs, fr_mrs h.si0, fr_gnl hN, fr_mnl hN h.si0, if_neg fr_up, if_neg (fr_mup h), h1, h2, h3, h4, h7, h8, h9, h10, h11]
  by_cases c0 : w = 0
  · (rw [if_pos c0, if_pos c0]) <;> rfl
  rw [if_neg c0, if_neg c0]
  by_cases c1 : w = 1
  · (rw [if_pos c1, if_pos c1]) <;> rfl
  rw [if_neg c1, if_neg c1]
  by_cases c2 : w = 2
  · (rw [if_pos c2, if_pos c2]) <;> rfl
  rw [if_neg c2, if_neg c2]
  by_cases c3 : w = 3
  · (rw [if_pos c3, if_pos c3]) <;> rfl
  rw [if_neg c3, if_neg c3]
  by_cases c4 : w = 4
  · (rw [if_pos c4, if_pos c4]) <;> rfl
  rw [if_neg c4, if_neg c4]
  by_cases c5 : w = 5
  · (rw [if_pos c5, if_pos c5]) <;> rfl
  rw [if_neg c5, if_neg c5]
  by_cases c6 : w = 6
  · (rw [if_pos c6, if_pos c6]) <;> rfl
  rw [if_neg c6, if_neg c6]
  by_cases c7 : w = 7
  · (rw [if_pos c7, if_pos c7]) <;> rfl
  rw [if_neg c7, if_neg c7]
  by_cases c8 : w = 8
  · (rw [if_pos c8, if_pos c8]) <;> rfl
  rw [if_neg c8, if_neg c8]
  by_cases c9 : w = 9
  · (rw [if_pos c9, if_pos c9]) <;> rfl
  rw [if_neg c9, if_neg c9]
  by_cases c10 : w = 10
  · (rw [if_pos c10, if_pos c10]) <;> rfl
  rw [if_neg c10, if_neg c10]
  by_cases c11 : w = 11
  · (rw [if_pos c11, if_pos c11]) <;> rfl
  rw [if_neg c11, if_neg c11]
  by_cases c12 : w = 12
  · (rw [if_pos c12, if_pos c12]) <;> rfl
  rw [if_neg c12, if_neg c12]
  by_cases c13 : w = 13
  · (rw [if_pos c13, if_pos c13]) <;> rfl
  rw [if_neg c13, if_neg c13]
  by_cases c14 : w = 14
  · (rw [if_pos c14, if_pos c14]) <;> rfl
  rw [if_neg c14, if_neg c14]
theorem ok1_astray {I : Nat → Nat → GS → Nat → MS → Prop} (hI : ∀ nd g md t, I (0 + 1) nd g md t) (hR9 : 2 ≤ R ∧ R ≤ 48) (hN : 3 ≤ nd ∧ nd ≤ 7) (h : FT nd t) : Ok_astray I R 0 nd (g00 nd) nd t := by
  intro y
  refine ⟨?_, hI _ _ _ _⟩
  unfold mf_astray gf_4_astray
  rw [if_neg fr_up, if_neg (fr_mup h), if_pos (fr_mnl hN h.si0), if_pos (show gf_4_isArrayDegraded R nd (g00 nd) = 0 by unfold gf_4_isArrayDegraded; rw [if_pos (fr_gnl hN)])]
  exact fr_al _ _
theorem ok1_sum {I : Nat → Nat → GS → Nat → MS → Prop} (hI : ∀ nd g md t, I (0 + 1) nd g md t) (hR9 : 2 ≤ R ∧ R ≤ 48) (hN : 3 ≤ nd ∧ nd ≤ 7) (h : FT nd t) : Ok_sum I R 0 nd (g00 nd) nd t := by
  intro y
  unfold lr_sum mf_sum mf_thrown
  rw [if_neg fr_up, if_neg (fr_mup h)]
  obtain ⟨e1, e2⟩ := fr_msl (R := R) (nd := nd) 433 0 (si t 0 0) h.2.2.2.2.2.2.1
  exact ⟨by rw [e2]; rfl, fun _ => (show gf_4_sum R nd (g00 nd) = _ by rw [e1]; exact fr_sl _ _), hI _ _ _ _⟩
end FRESH
theorem II_ok (R nd : Nat) (hR9 : 2 ≤ R ∧ R ≤ 48) (hN : 3 ≤ nd ∧ nd ≤ 7) (k : Nat) (hk : k < 1) : LawOK (II R nd) R k := by
  have hk0 : k = 0 := by omega
  subst hk0
  intro nd2 g md t h
  obtain ⟨e1, e2, e3, e4⟩ := h rfl
  subst e1 e2 e3 e4
  have hF := FT_init R _ hN
  have hI : ∀ nd' g md' t, II R md (0 + 1) nd' g md' t := fun _ _ _ _ e => by cases e
  exact ⟨fr_rdy hR9 hN hF, hI _ _ _ _, ok1_write hI hR9 hN hF, ok1_read hI hR9 hN hF, ok1_add hI hR9 hN hF, ok1_grow hI hR9 hN hF, ok1_step hI hR9 hN hF, ok1_fail hI hR9 hN hF, ok1_replace hI hR9 hN hF, ok1_rebuild hI hR9 hN hF, ok1_cut hI, ok1_open hI hF, ok1_place hI hR9 hN hF, ok1_disk hI hR9 hN hF, ok1_count hI hR9 hN hF, ok1_astray hI hR9 hN hF, ok1_sum hI hR9 hN hF⟩
