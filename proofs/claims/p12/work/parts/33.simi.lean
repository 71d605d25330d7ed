/-! ===== a WRITE: what it leaves; the places' geometry on both sides; the end of a part of a call ===== -/
section SIMI
variable {R nd : Nat} {g : GS} {t : MS} {U : Int32}
theorem lv_iff {d : Nat} (h : MM nd nd g t) (hd : d < nd) : t.2.1 0 d = 0 ↔ g.2.1 10 d = 0 ∧ 0 < t.2.1 2 d := by
  rcases h.2.2.1 d hd (by omega) with ⟨s1, s2⟩ | ⟨s1, s2, s3⟩ | ⟨s1, s2, s3⟩
  · rw [s1, s2]
    exact ⟨fun q => absurd q (by decide), fun q => absurd q.1 (by decide)⟩
  · exact ⟨fun _ => ⟨s2, s3⟩, fun _ => s1⟩
  · rw [s1, s3]
    exact ⟨fun q => absurd q (by decide), fun q => absurd q.2 (by decide)⟩
theorem fl_iff {d : Nat} (h : MM nd nd g t) (hd : d < nd) : t.2.1 0 d = 1 ↔ g.2.1 10 d = 1 := by
  rcases h.2.2.1 d hd (by omega) with ⟨s1, s2⟩ | ⟨s1, s2, s3⟩ | ⟨s1, s2, s3⟩
  · exact ⟨fun _ => s2, fun _ => s1⟩
  · rw [s1, s2]
  · rw [s1, s2]
    exact ⟨fun q => absurd q (by decide), fun q => absurd q (by decide)⟩
theorem Geo9.pos {b : Nat} {s : T4} (hb : b ≤ 1001) (h : Geo9 R nd b s) : 0 < s.1 := by
  obtain ⟨S, N, M, F, e, h1, h2, -⟩ := h
  rw [e]
  show 0 < nI S
  rw [← nI_0]
  exact Int32.not_le.mp (nI_ge (by omega) (by omega))
theorem FIN {b : Nat} {G : GS} {T : MS} {nw : T4} (hb : b ≤ 1000) (h : BI R nd b g t) (hh : ∀ d, d < nd → t.2.1 0 d = 0 → SUP t d = HLD t) (hM : MM nd nd G T) (hnw : Geo9 R nd (b + 1) nw) (hn1 : nw.1 = t.1 1 + 1)
    (h10 : G.2.1 10 = g.2.1 10) (hs : ∀ d, SUP T d = SUP t d ∨ (SUP T d = nw ∧ d < nd ∧ t.2.1 0 d = 0)) (hH : HLD T = HLD t ∨ HLD T = nw)
    (hJ : ∀ d, d < nd → JS g t G T d ∨ (T.2.1 7 d = t.1 1 ∧ JG R G T d (HLD t))) (hV : ∀ i, vp_in (T.2.1 8 i) 432) (hF : ∀ q d, nd ≤ d → G.2.1 q d = g.2.1 q d) : BI R nd (b + 1) G T ∧ ∀ d, d < nd → (T.2.1 0 d = 0 ↔ t.2.1 0 d = 0) := by
  have hp : 0 < nw.1 := hnw.pos (by omega)
  have hl : ∀ d, d < nd → (T.2.1 0 d = 0 ↔ t.2.1 0 d = 0) := by
    intro d hd
    rw [lv_iff hM hd, lv_iff h.1 hd, h10]
    rcases hs d with q | ⟨q, -, q3⟩
    · have e : T.2.1 2 d = t.2.1 2 d := congrArg Prod.fst q
      rw [e]
    · have e : T.2.1 2 d = nw.1 := congrArg Prod.fst q
      rw [e]
      have := (lv_iff h.1 hd).mp q3
      exact ⟨fun _ => this, fun z => ⟨z.1, hp⟩⟩
  refine ⟨BI_tr hb h hh hM hnw hn1 hH (fun i j h1 h2 h3 h4 => h.2.2.2.2.2.1 i j h1 h2 (fun q => h3 ((hl i h1).mpr q)) (fun q => h4 ((hl j h2).mpr q))) (fun d hd q => ?_) (fun d hd q => ⟨d, hd, (hl d hd).mp q⟩) (fun e he q1 _ => (hJ e he).imp (fun z => ⟨fun w => q1 ((fl_iff hM he).mpr (by rw [h10]; exact (fl_iff h.1 he).mp w)), z⟩) id) hV hF, hl⟩
  have q1 := (hl d hd).mp q
  rcases hs d with z | z
  · exact Or.inl (z.trans (hh d hd q1))
  · exact Or.inr z.1
/-- the supers as they are, one number higher -/
def up1 (t : MS) : T4 := (t.1 1 + 1, t.1 2, t.1 3, t.1 4)
theorem Geo9.up {b : Nat} (h : Geo9 R nd b (HLD t)) : Geo9 R nd (b + 1) (up1 t) := by
  obtain ⟨S, N, M, F, e, h1, h2, h3⟩ := h
  have e1 : t.1 1 = nI S := congrArg Prod.fst e
  have e2 : t.1 2 = nI N := congrArg (fun x : T4 => x.2.1) e
  have e3 : t.1 3 = nI M := congrArg (fun x : T4 => x.2.2.1) e
  have e4 : t.1 4 = nI F := congrArg (fun x : T4 => x.2.2.2) e
  refine ⟨S + 1, N, M, F, ?_, by omega, by omega, h3⟩
  unfold up1
  rw [e1, e2, e3, e4, nI_1]
/-! the geometry of a place -/
theorem mw_nI {N M F A : Nat} (h2 : t.1 2 = nI N) (h3 : t.1 3 = nI M) (h4 : t.1 4 = nI F) (hM : M ≤ 10) (hN : N ≤ M) (hN3 : 3 ≤ N) (hF : F < 48) (hNF : N = M → F = 0) (hA : A < 432) : mf_width R nd t (nI A) = nI (widN N M F A) := by
  have hle : F * (M - 1) ≤ 48 * 9 := Nat.mul_le_mul (by omega) (by omega)
  unfold mf_width mf_isByM mf_isReshaped widN
  rw [h2, h3, h4]
  by_cases e : N = M
  · have := hNF e
    subst this
    subst e
    rw [if_pos rfl, if_pos rfl, if_pos rfl, if_pos (by omega)]
  · have e1 : ¬ nI M = nI N := fun q => e (nI_inj (by omega) (by omega) q).symm
    rw [if_neg e1, if_neg (show ¬ (1 : Int32) = 0 by decide), nI_one, pk_sub (by omega), pk_mul]
    by_cases c : F * (M - 1) ≤ A
    · rw [if_pos (nI_le c (by omega)), if_pos rfl, if_pos c]
    · rw [if_neg (nI_ge (by omega) (by omega)), if_neg (show ¬ nI 1 = 0 by decide), if_neg c]
theorem gw_nI {N M F A : Nat} (h2 : g.1 9 = nI N) (h3 : g.1 10 = nI M) (h4 : g.1 11 = nI F) (hM : M ≤ 10) (hN : N ≤ M) (hN3 : 3 ≤ N) (hF : F < 48) (hA : A < 432) : gf_4_widthOf R nd g (nI A) = nI (widN N M F A) := by
  have hle : F * (M - 1) ≤ 48 * 9 := Nat.mul_le_mul (by omega) (by omega)
  unfold gf_4_widthOf gf_4_isMoved widN
  rw [h2, h3, h4, nI_one, pk_sub (by omega), pk_mul]
  by_cases c : F * (M - 1) ≤ A
  · rw [if_pos (nI_le c (by omega)), if_pos rfl, if_pos c]
  · rw [if_neg (nI_ge (by omega) (by omega)), if_neg (show ¬ nI 1 = 0 by decide), if_neg c]
theorem wid_le {N M F A : Nat} (hN3 : 3 ≤ N) (hN : N ≤ M) : 3 ≤ widN N M F A ∧ widN N M F A ≤ M := by
  unfold widN
  split <;> omega
theorem row_lt {N M F A : Nat} (hN3 : 3 ≤ N) (hN : N ≤ M) (hF : F < R) (hA : A < R * (N - 1)) : rowN (widN N M F A) A < R := by
  unfold rowN widN
  split
  · exact Nat.div_lt_of_lt_mul (by rw [Nat.mul_comm]; exact hA)
  · rename_i c
    have : A / (M - 1) < F := Nat.div_lt_of_lt_mul (by rw [Nat.mul_comm]; omega)
    omega
theorem dsk_lt {w A : Nat} (h : 3 ≤ w) : dskN w A < w := Nat.mod_lt _ (by omega)
theorem par_lt {w A : Nat} (h : 3 ≤ w) : parN w A < w := by unfold parN; omega
/-- both sides' numbers of place A -/
theorem place_nI {N M F A : Nat} (h2 : t.1 2 = nI N) (h3 : t.1 3 = nI M) (h4 : t.1 4 = nI F) (g2 : g.1 9 = nI N) (g3 : g.1 10 = nI M) (g4 : g.1 11 = nI F) (hM : M ≤ 10) (hN : N ≤ M) (hN3 : 3 ≤ N) (hF : F < 48) (hNF : N = M → F = 0) (hA : A < 432) :
    mf_rowOf R nd t (nI A) = nI (rowN (widN N M F A) A) ∧ mf_diskOf R nd t (nI A) = nI (dskN (widN N M F A) A) ∧ mf_parityOf R nd t (nI A) = nI (parN (widN N M F A) A) ∧ gf_4_widthOf R nd g (nI A) = nI (widN N M F A) ∧ gf_4_rowIn R nd g (nI (widN N M F A)) (nI A) = nI (rowN (widN N M F A) A) ∧ gf_4_diskIn R nd g (nI (widN N M F A)) (nI A) = nI (dskN (widN N M F A) A) ∧ ∀ g' : GS, gf_4_parityDisk R nd g' (nI (widN N M F A)) (nI (rowN (widN N M F A) A)) = nI (parN (widN N M F A) A) := by
  have hw := mw_nI (R := R) (nd := nd) h2 h3 h4 hM hN hN3 hF hNF hA
  obtain ⟨w3, wM⟩ := wid_le (F := F) (A := A) hN3 hN
  have hq : A / (widN N M F A - 1) ≤ A := Nat.div_le_self _ _
  exact ⟨mf_rowOf_nI hw w3 (by omega) hA, mf_diskOf_nI hw w3 (by omega) hA, mf_parityOf_nI hw w3 (by omega) hA, gw_nI g2 g3 g4 hM hN hN3 hF hA, gp_row w3 (by omega) hA, gp_disk w3 (by omega) hA, fun g' => gp_parity w3 (by omega) (by unfold rowN; omega)⟩
/-! the journal of a WRITE, on both sides -/
theorem jl_arr {q a : Int32} {v : Int64} : ∀ (j k : Nat) (many : Int32) (t1 : MS) (z : Nat), 2 ≤ z → ¬ z = 6 → ¬ z = 7 → ¬ z = 8 → (mg_journaled_6 R nd q a v j k many t1).2.2.1 z = t1.2.1 z := by
  intro j
  induction j with
  | zero => intro k many t1 z _ _ _ _; rfl
  | succ j ih =>
    intro k many t1 z h2 h6 h7 h8
    have hp : ¬ aPok z := by simp only [aPok]; omega
    have e : ∀ d, (mf_pokes R nd t1 d).2.2.1 z = t1.2.1 z := fun d => (mf_pokes_keep t1 d).2.1 z hp
    rw [mg_journaled_6]
    repeat' split
    all_goals first
      | exact e _
      | exact ih _ _ _ z h2 h6 h7 h8
      | exact (mf_block_keep _ _ _).2.1 z hp
      | exact ((mf_block_keep _ _ _).2.1 z hp).trans ((mf_block_keep _ _ _).2.1 z hp)
      | (rw [ih _ _ _ z h2 h6 h7 h8, ← e (nI k)]; simp [tl, ti, va_up, h6, h7, h8])
abbrev aJo (q : Nat) : Prop := (4 ≤ q ∧ q ≤ 8) ∨ q = 11
theorem GF_tj {k : Nat} (hk : k < nd) : GF nd aJo g (gf_1_takeJournal_d_r R nd g k) := by
  obtain ⟨-, e⟩ := takeJournal_eq (R := R) (nd := nd) (g := g) (k := k)
  have h : GF nd aJo g (gdi (gdi (gdi (gdi (gdi (gdi g 11 k (g.2.1 11 k + 1)) 4 k (g.1 12)) 5 k (g.1 13)) 6 k (g.1 14)) 7 k (g.1 15)) 8 k (g.1 16)) := (GF.di (by decide) hk).tr ((GF.di (by decide) hk).tr ((GF.di (by decide) hk).tr ((GF.di (by decide) hk).tr ((GF.di (by decide) hk).tr (GF.di (by decide) hk)))))
  exact h.tr (GF.of e)
theorem GF_carry_l (hnd : nd ≤ 10) : ∀ (j k : Nat) (told : Int32) (g1 : GS), k ≤ nd → GF nd aJo g1 (gg_4_carryOutOrder_4 R nd j k told g1) := by
  have h11 : ∀ q, a11 q → aJo q := fun q h => Or.inr h
  intro j
  induction j with
  | zero => intro k told g1 hk; exact GF.rf
  | succ j ih =>
    intro k told g1 hk0
    rw [gg_4_carryOutOrder_4]
    by_cases c : nI nd ≤ nI k
    · rw [if_pos c]
      exact ((GF_wb hnd).tr (GF_wb hnd)).mo h11
    · have hk : k < nd := nd_lt c (by omega)
      rw [if_neg c]
      by_cases c2 : 2 ≤ told
      · rw [if_pos c2]
        exact ((GF_wb hnd).tr (GF_wb hnd)).mo h11
      · rw [if_neg c2]
        by_cases c3 : gf_4_isLive R nd g1 (nI k) = 0
        · rw [if_pos c3]; exact ih _ _ _ (by omega)
        · rw [if_neg c3]
          by_cases c4 : (gf_4_spendWrite R nd g1).1 = 0
          · rw [if_pos c4]; exact GF_spend.tr (ih _ _ _ (by omega))
          · rw [if_neg c4]; exact (GF_spend.tr (GF_tj hk)).tr (ih _ _ _ (by omega))
theorem GF_carry (hnd : nd ≤ 10) : GF nd aJo g (gf_4_carryOutOrder R nd g) := GF_carry_l hnd _ _ _ _ (by omega)
/-- journals that the WRITE told, and those that it left -/
def JW (q a : Int32) (r x y : Nat) (g : GS) (t : MS) (G : GS) (T : MS) : Prop := ∀ d, JS g t G T d ∨ (T.2.1 6 d = q ∧ T.2.1 7 d = t.1 1 ∧ T.2.1 8 d = a ∧ G.2.1 6 d = nI r ∧ G.2.1 7 d = nI x ∧ G.2.1 8 d = nI y)
theorem JW_of {q a : Int32} {r x y : Nat} {G : GS} {T : MS} (h1 : ∀ z, 6 ≤ z → z ≤ 8 → T.2.1 z = t.2.1 z) (h2 : ∀ z, 6 ≤ z → z ≤ 8 → G.2.1 z = g.2.1 z) : JW q a r x y g t G T := fun d => Or.inl ⟨by rw [h1 6 (by decide) (by decide)], by rw [h1 7 (by decide) (by decide)], by rw [h1 8 (by decide) (by decide)], by rw [h2 6 (by decide) (by decide)], by rw [h2 7 (by decide) (by decide)], by rw [h2 8 (by decide) (by decide)]⟩
theorem JW_tr {q a : Int32} {r x y : Nat} {G K : GS} {T V : MS} (h : JW q a r x y g t G T) (k : JW q a r x y G T K V) (h1 : T.1 1 = t.1 1) : JW q a r x y g t K V := by
  intro d
  rcases k d with ⟨a1, a2, a3, a4, a5, a6⟩ | ⟨a1, a2, a3, a4⟩
  · rcases h d with ⟨b1, b2, b3, b4, b5, b6⟩ | ⟨b1, b2, b3, b4, b5, b6⟩
    · exact Or.inl ⟨a1.trans b1, a2.trans b2, a3.trans b3, a4.trans b4, a5.trans b5, a6.trans b6⟩
    · exact Or.inr ⟨a1.trans b1, a2.trans b2, a3.trans b3, a4.trans b4, a5.trans b5, a6.trans b6⟩
  · exact Or.inr ⟨a1, a2.trans h1, a3, a4⟩
theorem jl_w {r x y : Nat} {q a : Int32} {v : Int64} (hnd : nd ≤ 10) : ∀ (j k : Nat) (told : Int32) (g1 : GS) (t1 : MS), k ≤ nd → nd < k + j → MM nd nd g1 t1 → g1.1 1 = 1 → OJ R nd r x y q a g1 t1 → JW q a r x y g1 t1 (gg_4_carryOutOrder_4 R nd j k told g1) (mg_journaled_6 R nd q a v j k told t1).2 := by
  intro j
  induction j with
  | zero => intro k told g1 t1 h1 h2; omega
  | succ j ih =>
    intro k told g1 t1 h1 h2 h hu hO
    have fin : JW q a r x y g1 t1 (gf_4_writeBlock R nd (gf_4_writeBlock R nd g1 (g1.1 15) (g1.1 14) (g1.2.2 0 0 0)) ((gf_4_writeBlock R nd g1 (g1.1 15) (g1.1 14) (g1.2.2 0 0 0)).1 16) ((gf_4_writeBlock R nd g1 (g1.1 15) (g1.1 14) (g1.2.2 0 0 0)).1 14) ((gf_4_writeBlock R nd g1 (g1.1 15) (g1.1 14) (g1.2.2 0 0 0)).2.2 0 0 1)) (if (mf_block R nd t1 (mf_diskOf R nd t1 a) (mf_rowOf R nd t1 a)).1 = 0 then ((0 : Int32), (mf_block R nd t1 (mf_diskOf R nd t1 a) (mf_rowOf R nd t1 a)).2) else if (mf_block R nd (mf_block R nd t1 (mf_diskOf R nd t1 a) (mf_rowOf R nd t1 a)).2 (mf_parityOf R nd (mf_block R nd t1 (mf_diskOf R nd t1 a) (mf_rowOf R nd t1 a)).2 a) (mf_rowOf R nd (mf_block R nd t1 (mf_diskOf R nd t1 a) (mf_rowOf R nd t1 a)).2 a)).1 = 0 then (0, (mf_block R nd (mf_block R nd t1 (mf_diskOf R nd t1 a) (mf_rowOf R nd t1 a)).2 (mf_parityOf R nd (mf_block R nd t1 (mf_diskOf R nd t1 a) (mf_rowOf R nd t1 a)).2 a) (mf_rowOf R nd (mf_block R nd t1 (mf_diskOf R nd t1 a) (mf_rowOf R nd t1 a)).2 a)).2) else (1, tl (mf_block R nd (mf_block R nd t1 (mf_diskOf R nd t1 a) (mf_rowOf R nd t1 a)).2 (mf_parityOf R nd (mf_block R nd t1 (mf_diskOf R nd t1 a) (mf_rowOf R nd t1 a)).2 a) (mf_rowOf R nd (mf_block R nd t1 (mf_diskOf R nd t1 a) (mf_rowOf R nd t1 a)).2 a)).2 1 a.toNatClampNeg v)).2 := by
      refine JW_of (fun z h6 h8 => ?_) (fun z h6 h8 => ((GF_wb hnd).tr (GF_wb hnd)).1 z (by simp only [a11]; omega))
      have hp : ¬ aPok z := by simp only [aPok]; omega
      repeat' split
      all_goals first
        | exact (mf_block_keep _ _ _).2.1 z hp
        | exact ((mf_block_keep _ _ _).2.1 z hp).trans ((mf_block_keep _ _ _).2.1 z hp)
    rw [gg_4_carryOutOrder_4, mg_journaled_6]
    by_cases c : nI nd ≤ nI k
    · rw [if_pos c, if_pos c]
      exact fin
    · have hk : k < nd := nd_lt c (by omega)
      rw [if_neg c, if_neg c]
      by_cases c2 : 2 ≤ told
      · rw [if_pos c2, if_pos c2]
        exact fin
      · rw [if_neg c2, if_neg c2]
        have lv := live_k (R := R) hk hnd (h.2.1 k hk) (h.2.2.1 k hk (by omega))
        by_cases c0 : t1.2.1 0 k = 0
        · rw [if_pos c0, if_neg (fun q => (lv.mp q) c0)]
          by_cases cp : t1.1 6 = 0
          · obtain ⟨m1, m2, m3, m4, m5⟩ := MM_no (R := R) hnd h hu cp
            obtain ⟨-, -, l3, -, -⟩ := lasts_no (R := R) hnd cp
            rw [pokes_no hnd cp, if_pos m2, if_pos rfl, dn_carry_l _ _ _ _ m4]
            exact JW_of (fun z h6 _ => l3 z (by omega)) (fun z _ _ => by rw [spend_arr])
          · rw [pokes_ok (by omega) cp, spend_ok hu (by rw [h.1.1]; exact cp), if_neg (show ¬ (1 : Int32) = 0 by decide), if_neg (show ¬ (1 : Int32) = 0 by decide), h.1.1]
            obtain ⟨e1, e2⟩ := takeJournal_eq (R := R) (nd := nd) (g := gsi (gsi g1 2 (dec9 (t1.1 6))) 5 (g1.1 5 + 1)) (k := k)
            have hm := MM_jr (q := g1.1 13) (s := g1.1 12) (w := g1.1 14) (x := g1.1 15) (y := g1.1 16) (a := a) hk (MM_tick (v := dec9 (t1.1 6)) hk h)
            have hm2 := MM_ext e1 e2 hm
            rw [hO.1, hO.2.1] at hm2
            refine JW_tr (G := gf_1_takeJournal_d_r R nd (gsi (gsi g1 2 (dec9 (t1.1 6))) 5 (g1.1 5 + 1)) k) (T := tl (ti (ti (ti (si (ti (si t1 6 (dec9 (t1.1 6))) 1 k (t1.2.1 1 k + 1)) 9 (t1.1 9 + 1)) 6 k q) 7 k (t1.1 1)) 8 k a) 0 k v) (fun d => ?_) (ih (k + 1) _ _ _ (by omega) (by omega) (MM_tl hm2) (by rw [e1]; exact hu) (OJ_cong (fun i hi => ?_) (fun i h5 h6 => ?_) hO)) rfl
            · by_cases ed : d = k
              · subst ed
                refine Or.inr ?_
                rw [e2]
                obtain ⟨o1, o2, o3, o4, o5, -⟩ := hO
                simp [gdi, gsi, tl, ti, si, va_up, o3, o4, o5]
              · refine Or.inl ?_
                unfold JS
                rw [e2]
                simp [gdi, gsi, tl, ti, si, va_up, ed]
            · rw [e1]
              simp [gdi, gsi, va_up, show ¬ i = 2 by omega, show ¬ i = 5 by omega]
            · simp [tl, ti, si, va_up, show ¬ i = 6 by omega, show ¬ i = 9 by omega]
        · rw [if_neg c0, if_pos (lv.mpr c0)]
          exact ih (k + 1) told g1 t1 (by omega) (by omega) h hu hO
end SIMI
