/-! ===== THE BLOCKS: a WRITE carried out, wholly or not ===== -/
section CA
variable {R nd : Nat} {g : GS} {t : MS}
theorem lvD_eq {G : GS} (h0 : G.2.1 0 = g.2.1 0) (h10 : G.2.1 10 = g.2.1 10) : lvD nd G = lvD nd g := by
  funext d
  unfold lvD
  rw [h0, h10]
theorem fam_eq {G : GS} (h : lvD nd G = lvD nd g) : fam nd G = fam nd g := by
  funext l
  unfold fam
  rw [h]
theorem ef_carry {r x y : Nat} {q a : Int32} {v : Int64} (hnd : nd ≤ 10) (hR : R ≤ 48) (hr : r < R) (hx : x < nd) (hy : y < nd) (hxy : ¬ x = y) (h : MM nd nd g t) (hu : g.1 1 = 1) (h12 : g.1 12 = t.1 1) (h13 : g.1 13 = q) (h14 : g.1 14 = nI r) (h15 : g.1 15 = nI x) (h16 : g.1 16 = nI y) (hgv : g.2.2 0 0 0 = v)
    (hOC : ((mf_journaled R nd t q a v).1 = 1 ∧ (gf_4_carryOutOrder R nd g).1 1 = 1) ∨ ((mf_journaled R nd t q a v).1 = 0 ∧ (gf_4_carryOutOrder R nd g).1 1 = 0)) :
    ((mf_journaled R nd t q a v).1 = 0 ∧ (gf_4_carryOutOrder R nd g).1 1 = 0 ∧ (mf_journaled R nd t q a v).2.2.2 1 = t.2.2 1 ∧ ∃ k, k ≤ nd ∧ JE nd a v g t (gf_4_carryOutOrder R nd g) (mf_journaled R nd t q a v).2 k ∧ ((gf_4_carryOutOrder R nd g).2.2 4 = g.2.2 4 ∨ (k = nd ∧ ∀ d r', ¬ (r' = r ∧ (d = x ∨ d = y)) → (gf_4_carryOutOrder R nd g).2.2 4 d r' = g.2.2 4 d r'))) ∨
    ((mf_journaled R nd t q a v).1 = 1 ∧ (gf_4_carryOutOrder R nd g).1 1 = 1 ∧ (mf_journaled R nd t q a v).2.2.2 1 = va_up (t.2.2 1) a.toNatClampNeg v ∧ JE nd a v g t (gf_4_carryOutOrder R nd g) (mf_journaled R nd t q a v).2 nd ∧ (∀ d r', ¬ (r' = r ∧ (d = x ∨ d = y)) → (gf_4_carryOutOrder R nd g).2.2 4 d r' = g.2.2 4 d r') ∧ (wbl nd g x r → (gf_4_carryOutOrder R nd g).2.2 4 x r = g.2.2 0 0 0) ∧ (wbl nd g y r → (gf_4_carryOutOrder R nd g).2.2 4 y r = g.2.2 0 0 1)) := by
  have key := ef_jl (R := R) (g := g) (t := t) (q := q) (a := a) hnd hgv (nd + 1) 0 0 g t (by omega) (by omega) h hu h12 h13 (fun _ _ => rfl) rfl rfl rfl rfl rfl nI_0.symm ⟨fun d hd => by omega, fun _ _ => ⟨rfl, rfl, rfl, rfl, rfl, rfl, rfl, rfl⟩, fun _ _ => rfl, fun _ _ _ => rfl⟩ rfl rfl
  rw [show gg_4_carryOutOrder_4 R nd (nd + 1) 0 0 g = gf_4_carryOutOrder R nd g from rfl, show mg_journaled_6 R nd q a v (nd + 1) 0 0 t = mf_journaled R nd t q a v from rfl] at key
  rcases key with ⟨k, x1, x2, x3, x4, x5, x6⟩ | ⟨g2, t2, x1, x2, x3, x4, x5, x6, x7, x8, x9, -⟩
  · exact Or.inl ⟨x4, x3, x6, k, x1, x2, Or.inl x5⟩
  · obtain ⟨k1, k2, k3, k4⟩ := t2b_keep (R := R) (nd := nd) (t := t2) (a := a) (v := v)
    obtain ⟨b1, b2, b3, b4⟩ := g2b_eff (R := R) (g := g2) hnd hR hr hx hy hxy x5 ((x6 14 (by decide)).trans h14) ((x6 15 (by decide)).trans h15) ((x6 16 (by decide)).trans h16)
    rw [x1, x2] at hOC ⊢
    have hJ : JE nd a v g t (g2b R nd g2) (t2b R nd t2 a v).2 nd := x3.to b1 b2 k1 k2
    have w9 : ∀ z, wbl nd g2 z r ↔ wbl nd g z r := by
      intro z
      unfold wbl lvD
      rw [x3.2.2.1 0 (by omega), x3.2.2.1 10 (by omega), x7]
    have z0 : g2.2.2 0 = g.2.2 0 := x3.2.2.2 0 (by decide) (by decide)
    rw [x8] at b3
    rcases hOC with ⟨o1, o2⟩ | ⟨o1, o2⟩
    · refine Or.inr ⟨o1, o2, by rw [k4 (by rw [o1]; decide), x9], hJ, b3, fun z => ?_, fun z => ?_⟩
      · rw [← z0]; exact (b4 o2).1 ((w9 x).mpr z)
      · rw [← z0]; exact (b4 o2).2 ((w9 y).mpr z)
    · exact Or.inl ⟨o1, o2, by rw [k3 o1, x9], nd, Nat.le_refl _, hJ, Or.inr ⟨rfl, b3⟩⟩
theorem CAR {S N M F A : Nat} {q : Int32} {X : Nat → Nat → Int64} {v p : Int64} (hn : 3 ≤ nd ∧ nd ≤ 10) (hR : R ≤ 48) (bd : bd4 S N M F) (hM : M ≤ nd) (hF : F < R) (hA : A < R * (N - 1)) (h : MM nd nd g t) (hu : g.1 1 = 1) (h12 : g.1 12 = nI S) (ht1 : t.1 1 = nI S) (h13 : g.1 13 = q) (hq : 0 < q)
    (h14 : g.1 14 = nI (rowN (widN N M F A) A)) (h15 : g.1 15 = nI (dskN (widN N M F A) A)) (h16 : g.1 16 = nI (parN (widN N M F A) A)) (hgv : g.2.2 0 0 0 = v) (hgp : g.2.2 0 0 1 = p) (one : one9 nd g)
    (old : DAU R (lvD nd g) (fam nd g) S N M F g t) (hX : XJ N M F X A v p) (hDK : DKU R (lvD nd g) (fam nd g) S N M F (cel N M F A) X (va_up (t.2.2 1) A v) g)
    (hOC : ((mf_journaled R nd t q (nI A) v).1 = 1 ∧ (gf_4_carryOutOrder R nd g).1 1 = 1) ∨ ((mf_journaled R nd t q (nI A) v).1 = 0 ∧ (gf_4_carryOutOrder R nd g).1 1 = 0)) :
    (∀ z, z < 4 ∨ z = 9 ∨ z = 10 → (gf_4_carryOutOrder R nd g).2.1 z = g.2.1 z) ∧
    (((mf_journaled R nd t q (nI A) v).1 = 0 ∧ (gf_4_carryOutOrder R nd g).1 1 = 0 ∧ DAU R (lvD nd g) (fam nd g) S N M F (gf_4_carryOutOrder R nd g) (mf_journaled R nd t q (nI A) v).2) ∨
    ((mf_journaled R nd t q (nI A) v).1 = 1 ∧ (gf_4_carryOutOrder R nd g).1 1 = 1 ∧ (mf_journaled R nd t q (nI A) v).2.2.2 1 = va_up (t.2.2 1) A v ∧ NOP R (lvD nd g) S N M F X (gf_4_carryOutOrder R nd g) (mf_journaled R nd t q (nI A) v).2 ∧ JL (lvD nd g) (gf_4_carryOutOrder R nd g) S ∧ (gf_4_carryOutOrder R nd g).2.2 3 = g.2.2 3 ∧ ∀ d r', wbl nd g d r' → (g.2.2 4 d r' = X d r' ∨ cel N M F A d r') → (gf_4_carryOutOrder R nd g).2.2 4 d r' = X d r')) := by
  obtain ⟨s1, s2, n3, nM, m10, f48, nF⟩ := id bd
  obtain ⟨w3, wM⟩ := wid_le (F := F) (A := A) n3 nM
  have hrow := row_lt (R := R) (F := F) (A := A) n3 nM hF hA
  have hdsk := dsk_lt (A := A) w3
  have hpar := par_lt (A := A) w3
  have hne : ¬ dskN (widN N M F A) A = parN (widN N M F A) A := pl_par n3 nM rfl
  have hA4 : A < 432 := Nat.lt_of_lt_of_le hA (Nat.le_trans (Nat.mul_le_mul hR (show N - 1 ≤ 9 by omega)) (by decide))
  have key := ef_carry (R := R) (a := nI A) hn.2 hR hrow (by omega) (by omega) hne h hu (h12.trans ht1.symm) h13 h14 h15 h16 hgv hOC
  rw [nI_clamp (by omega)] at key
  generalize mf_journaled R nd t q (nI A) v = rT at key ⊢
  generalize gf_4_carryOutOrder R nd g = G at key ⊢
  -- journals
  have newJ : ∀ {k d : Nat}, JE nd (nI A) v g t G rT.2 k → d < k → lvD nd g d → c2 g d < 2 → jh G S d ∧ JD N M F G rT.2 d A v p := by
    intro k d hJ y1 y2 y3
    obtain ⟨z1, z2, z3, z4, z5, z6, z7, z8, z9⟩ := hJ.1 d y1 y2 y3
    exact ⟨⟨z1.trans h12, by rw [z2, h13]; exact hq⟩, z3.trans h14, z4.trans h15, z5.trans h16, z6.trans hgv, z7.trans hgp, z8, z9⟩
  have oldJ : ∀ {k d : Nat}, JE nd (nI A) v g t G rT.2 k → ¬ (d < k ∧ lvD nd g d ∧ c2 g d < 2) → (jh G S d ↔ jh g S d) ∧ ∀ B w u, JD N M F G rT.2 d B w u ↔ JD N M F g t d B w u := by
    intro k d hJ y1
    obtain ⟨z1, z2, z3, z4, z5, z6, z7, z8⟩ := hJ.2.1 d y1
    unfold jh JD
    rw [z1, z2, z3, z4, z5, z6, z7, z8]
    exact ⟨Iff.rfl, fun _ _ _ => Iff.rfl⟩
  have hJL : ∀ {k : Nat}, JE nd (nI A) v g t G rT.2 k → JL (lvD nd g) G S := by
    intro k hJ d e f y1 y2 y3 y4 y5 y6
    have := c2_ge y3 y4 y5 y6
    exact old.2.2.1 d e f y1 (((oldJ hJ (fun z => by omega)).1).mp y2) y3 y4 y5 y6
  have allW : JE nd (nI A) v g t G rT.2 nd → ∀ d, lvD nd g d → jh G S d → JD N M F G rT.2 d A v p := by
    intro hJ d y1 y2
    by_cases c : c2 g d < 2
    · exact (newJ hJ y1.1 y1 c).2
    · obtain ⟨e, f, y3, y4, y5, y6⟩ := c2_two (nd := nd) (g := g) d (by have := y1.1; omega) (by omega)
      exact (old.2.2.1 d e f y1 (((oldJ hJ (fun z => c z.2.2)).1).mp y2) y3 y4 y5 y6).elim
  rcases key with ⟨r0, u0, v0, k, hk, hJ, hbl⟩ | ⟨r1, u1, v1, hJ, ho, hx, hy⟩
  · refine ⟨hJ.2.2.1, Or.inl ⟨r0, u0, ?_⟩⟩
    have e9 : G.2.1 9 = g.2.1 9 := hJ.2.2.1 9 (by omega)
    have e3 : G.2.2 3 = g.2.2 3 := hJ.2.2.2 3 (by decide) (by decide)
    have hq9 : ∀ d, lvD nd g d → ∃ q, q ≤ S ∧ G.2.1 9 d = nI q := by rw [e9]; exact old.2.2.2
    rcases hbl with hbl | ⟨hk2, hbl⟩
    · have cg : ∀ {E : Nat → Nat → Prop} {Y : Nat → Nat → Int64} {val : Nat → Int64}, DKU R (lvD nd g) (fam nd g) S N M F E Y val g → DKU R (lvD nd g) (fam nd g) S N M F E Y val G := by
        intro E Y val hd
        unfold DKU RFU BKR at *
        rw [hbl, e9, e3]
        exact hd
      refine ⟨fun d y1 y2 => ?_, fun ⟨l, y1, y2⟩ => ?_, hJL hJ, hq9⟩
      · by_cases c : d < k ∧ lvD nd g d ∧ c2 g d < 2
        · exact ⟨A, v, p, X, (newJ hJ c.1 c.2.1 c.2.2).2, hA, hX, by rw [v0]; exact cg hDK⟩
        · obtain ⟨o1, o2⟩ := oldJ hJ c
          obtain ⟨B, w, u, Y, i1, i2, i3, i4⟩ := old.1 d y1 (o1.mp y2)
          exact ⟨B, w, u, Y, (o2 B w u).mpr i1, i2, i3, by rw [v0]; exact cg i4⟩
      · obtain ⟨Y, i⟩ := old.2.1 ⟨l, y1, fun d z1 z2 => by
          by_cases c : d < k ∧ lvD nd g d ∧ c2 g d < 2
          · exact y2 d z1 (newJ hJ c.1 c.2.1 c.2.2).1
          · exact y2 d z1 ((oldJ hJ c).1.mpr z2)⟩
        exact ⟨Y, by rw [v0]; exact cg i⟩
    · subst hk2
      refine ⟨fun d y1 y2 => ⟨A, v, p, X, allW hJ d y1 y2, hA, hX, ?_⟩, fun ⟨l, y1, y2⟩ => ?_, hJL hJ, hq9⟩
      · rw [v0]
        obtain ⟨d1, d2, d3, d4⟩ := hDK
        refine ⟨d1, fun d r z1 z2 z3 z4 z5 => ?_, ?_, ?_⟩
        · rw [hbl d r z4]
          exact d2 d r z1 z2 z3 z4 z5
        · unfold RFU at *
          rw [e9]
          refine d3.imp (fun z d z1 z2 z3 => ?_) id
          rw [hbl d F z3]
          exact z d z1 z2 z3
        · unfold BKR at *
          rw [e9, e3]
          exact d4
      · exfalso
        have : ∃ d, d < 2 ∧ l d := by
          rcases fam_01 one hn.1 y1 with z | z
          · exact ⟨0, by omega, z⟩
          · exact ⟨1, by omega, z⟩
        obtain ⟨d, z1, z2⟩ := this
        have z3 := fam_sub y1 d z2
        have z4 := c2_le1 g d
        exact y2 d z2 (newJ hJ z3.1 z3 (by omega)).1
  · refine ⟨hJ.2.2.1, Or.inr ⟨r1, u1, v1, fun d y1 y2 => ⟨A, v, p, allW hJ d y1 y2, hA, hX⟩, hJL hJ, hJ.2.2.2 3 (by decide) (by decide), fun d r' y1 y2 => ?_⟩⟩
    by_cases c : cel N M F A d r'
    · obtain ⟨c1, c2 | c2⟩ := c
      · subst c1 c2
        rw [hx y1, hgv]
        exact hX.1.symm
      · subst c1 c2
        rw [hy y1, hgp]
        exact hX.2.symm
    · rw [ho d r' c]
      exact y2.elim id (fun z => absurd z c)
end CA
