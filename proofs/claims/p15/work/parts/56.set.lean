/-! ===== THE BLOCKS: supers set, wholly or not; a row moved ===== -/
section ST
variable {R nd : Nat} {g : GS} {t : MS}
theorem nI_ne_s {S : Nat} (h : S ≤ 2000) : ¬ nI (S + 1) = 0 := nI_ne0 (by omega) (by omega)
theorem SE.ag {tgt : Nat → Prop} {nw : T4} {G : GS} {T : MS} {k : Nat} (h : SE tgt nw g G k) (h1 : T.2.1 8 = t.2.1 8) (h2 : T.2.2 = t.2.2) : AG g t G T :=
  ⟨fun q x1 x2 => h.2.2.1 q x1 (by omega), fun q _ _ => by rw [h.2.2.2], h1, h2⟩
theorem SETD {S N M F N2 M2 F2 : Nat} {X2 : Nat → Nat → Int64} {jo : Int32} {T : MS} (hnd : nd ≤ 10) (hu : g.1 1 = 1) (h8 : g.1 8 = nI S) (bd : bd4 S N M F) (bd2 : bd4 (S + 1) N2 M2 F2) (hsup : ∀ d, lvD nd g d → sup4 g d = q4 S N M F)
    (old : DAU R (lvD nd g) (fam nd g) S N M F g t) (new : CLX R (fun d => lvD nd g d ∨ (d < nd ∧ nI d = jo)) (S + 1) N2 M2 F2 X2 g t) (hjo : ∀ d, d < nd → nI d = jo → g.2.1 10 d = 0) (hT1 : T.2.1 8 = t.2.1 8) (hT2 : T.2.2 = t.2.2) :
    ((gf_4_setSuper R nd g (nI N2) (nI M2) (nI F2) jo).1 1 = 1 ∧ hl4 (gf_4_setSuper R nd g (nI N2) (nI M2) (nI F2) jo) = q4 (S + 1) N2 M2 F2 ∧ (∀ d, lvD nd (gf_4_setSuper R nd g (nI N2) (nI M2) (nI F2) jo) d ↔ (lvD nd g d ∨ (d < nd ∧ nI d = jo))) ∧ UPX R (lvD nd (gf_4_setSuper R nd g (nI N2) (nI M2) (nI F2) jo)) (S + 1) N2 M2 F2 X2 (gf_4_setSuper R nd g (nI N2) (nI M2) (nI F2) jo) T) ∨
    ((gf_4_setSuper R nd g (nI N2) (nI M2) (nI F2) jo).1 1 = 0 ∧ DND R nd (gf_4_setSuper R nd g (nI N2) (nI M2) (nI F2) jo) T) := by
  obtain ⟨k, hk, hS, hup⟩ := ef_set (R := R) (n0 := nI N2) (m0 := nI M2) (f := nI F2) (jo := jo) hnd hu
  rw [h8, nI_1] at hS hup
  generalize gf_4_setSuper R nd g (nI N2) (nI M2) (nI F2) jo = G at hS hup ⊢
  have s2 : S ≤ 2000 := by have := bd.2.1; omega
  have ag : AG g t G T := hS.ag hT1 hT2
  have hin : ∀ d, d < k → d < nd → (lvD nd g d ∨ nI d = jo) → lvD nd G d := by
    intro d h1 h2 h3
    have e := hS.1 d h1 h3
    refine ⟨h2, ?_, ?_⟩
    · rw [hS.2.2.1 10 (by decide) (by decide)]
      exact h3.elim (fun z => z.2.1) (hjo d h2)
    · rw [show G.2.1 0 d = nI (S + 1) from congrArg Prod.fst e]
      exact nI_ne_s s2
  have hout : ∀ d, ¬ (d < k ∧ (lvD nd g d ∨ nI d = jo)) → (lvD nd G d ↔ lvD nd g d) := by
    intro d h1
    have e := hS.2.1 d h1
    unfold lvD
    rw [show G.2.1 0 d = g.2.1 0 d from congrArg Prod.fst e, hS.2.2.1 10 (by decide) (by decide)]
  have hsub : ∀ d, lvD nd G d → (lvD nd g d ∨ (d < nd ∧ nI d = jo)) := by
    intro d h1
    by_cases c : d < k ∧ (lvD nd g d ∨ nI d = jo)
    · exact c.2.imp id (fun z => ⟨h1.1, z⟩)
    · exact Or.inl ((hout d c).mp h1)
  rcases hup with ⟨u1, u2, u3⟩ | u1
  · refine Or.inl ⟨u1, u3, fun d => ⟨hsub d, fun z => ?_⟩, ?_⟩
    · have hd : d < nd := z.elim (fun w => w.1) (fun w => w.1)
      exact hin d (by omega) hd (z.imp id (fun w => w.2))
    · exact ag.upx ((new.sub hsub).up)
  · refine Or.inr ⟨u1, ?_⟩
    by_cases hex : ∃ f, f < k ∧ f < nd ∧ (lvD nd g f ∨ nI f = jo)
    · refine Or.inr ⟨S + 1, N2, M2, F2, X2, bd2, ?_, fun d h1 => ?_, ag.clx (new.sub hsub), fun hall e he hsole => ?_⟩
      · obtain ⟨f, f1, f2, f3⟩ := hex
        exact ⟨f, hin f f1 f2 f3, hS.1 f f1 f3⟩
      · by_cases c : d < k ∧ (lvD nd g d ∨ nI d = jo)
        · exact ⟨S + 1, Nat.le_refl _, congrArg Prod.fst (hS.1 d c.1 c.2)⟩
        · have := (hS.2.1 d c).trans (hsup d ((hout d c).mp h1))
          exact ⟨S, by omega, congrArg Prod.fst this⟩
      · have hnc : ∀ d, lvD nd G d → ¬ d = e → ¬ (d < k ∧ (lvD nd g d ∨ nI d = jo)) := fun d h1 h2 c => hsole d h1 h2 (hS.1 d c.1 c.2)
        have hl : ∀ d, lvD nd G d → ¬ d = e → lvD nd g d := fun d h1 h2 => (hout d (hnc d h1 h2)).mp h1
        refine ⟨S, N, M, F, bd, fun d h1 => (hS.2.1 d (hnc d h1.1 h1.2)).trans (hsup d (hl d h1.1 h1.2)), ag.dau (old.sub (fun d h1 => hl d h1.1 h1.2) (fun l hl2 => ?_))⟩
        subst hl2
        by_cases ce : lvD nd g e
        · refine Or.inr ⟨fun d hd => ?_, e, he, funext (fun d => propext ⟨fun z => ⟨hl d z.1 z.2, z.2⟩, fun z => ⟨hall d z.1.1, z.2⟩⟩)⟩
          by_cases c : d = e
          · rw [c]; exact ce
          · exact hl d (hall d hd) c
        · refine Or.inl (funext (fun d => propext ⟨fun z => hl d z.1 z.2, fun z => ⟨hall d z.1, fun w => ?_⟩⟩))
          rw [w] at z
          exact ce z
    · have hno : ∀ d, d < nd → ¬ (d < k ∧ (lvD nd g d ∨ nI d = jo)) := fun d hd c => hex ⟨d, c.1, hd, c.2⟩
      have hL : lvD nd G = lvD nd g := funext (fun d => propext (by
        by_cases hd : d < nd
        · exact hout d (hno d hd)
        · exact ⟨fun z => absurd z.1 hd, fun z => absurd z.1 hd⟩))
      refine Or.inl ?_
      rw [fam_eq hL, hL]
      exact ⟨S, N, M, F, bd, fun d h1 => (hS.2.1 d (hno d h1.1)).trans (hsup d h1), ag.dau old⟩
/-! row FRONT by M -/
theorem mv_wr {N M F r : Nat} (h : ¬ r = F) : wrN N M (F + 1) r = wrN N M F r := by
  unfold wrN
  by_cases q : r < F
  · rw [if_pos q, if_pos (by omega)]
  · rw [if_neg q, if_neg (by omega)]
def UPE (R nd : Nat) (g : GS) (t : MS) : Prop := ∃ S N M F X, bd4 S N M F ∧ hl4 g = q4 S N M F ∧ UPX R (lvD nd g) S N M F X g t
theorem MOVED {S N M F : Nat} {X : Nat → Nat → Int64} {T : MS} (hn : 3 ≤ nd ∧ nd ≤ 10) (hR : 2 ≤ R ∧ R ≤ 48) (bd : bd4 S N M F) (hS9 : S < 2000) (hNM : N < M) (hM : M ≤ nd) (hF : F < R) (hu : g.1 1 = 1) (hl : hl4 g = q4 S N M F) (hsup : ∀ d, lvD nd g d → sup4 g d = q4 S N M F) (one : one9 nd g)
    (pre : PRE R (lvD nd g) S N M F X g t) (rf : ¬ crit N M F ∨ ∀ d, lvD nd g d → g.2.1 9 d = nI S) (hv : ∀ i, i < M - 1 → g.2.2 1 0 i = t.2.2 1 (F * (M - 1) + i)) (hnr : ∀ d, d < nd → ¬ (g.2.1 10 d = 0 ∧ g.2.1 0 d = 0 ∧ ¬ g.1 3 ≤ nI F)) (hj : ∀ d, lvD nd g d → ¬ jh g (S + 1) d) (hT1 : T.2.1 8 = t.2.1 8) (hT2 : T.2.2 = t.2.2) :
    ((gf_4_moveRow R nd g).1 1 = 1 ∧ lvD nd (gf_4_moveRow R nd g) = lvD nd g ∧ UPE R nd (gf_4_moveRow R nd g) T) ∨ ((gf_4_moveRow R nd g).1 1 = 0 ∧ DND R nd (gf_4_moveRow R nd g) T) := by
  obtain ⟨s1, s2, n3, nM, m10, f48, nF⟩ := id bd
  have h8 : g.1 8 = nI S := congrArg Prod.fst hl
  have h9 : g.1 9 = nI N := congrArg (fun x : T4 => x.2.1) hl
  have h10 : g.1 10 = nI M := congrArg (fun x : T4 => x.2.2.1) hl
  have h11 : g.1 11 = nI F := congrArg (fun x : T4 => x.2.2.2) hl
  obtain ⟨k, hk, hE, hup⟩ := ef_mr (R := R) (g := g) (rv := fun i => t.2.2 1 (F * (M - 1) + i)) hn.2 (by omega) hM hF hR.2 hnr hu hv
  have kp : ∀ i, ¬ i = 1 → ¬ i = 2 → ¬ i = 5 → ¬ i = 7 → (gf_4_writeMovedRow R nd g (nI F) (nI M)).1 i = g.1 i := by
    intro i i1 i2 i5 i7
    obtain ⟨a2, ha⟩ := mr_eq (R := R) (nd := nd) (g := g) (row := nI F) (m0 := nI M)
    rw [ha]
    exact mr_keep_l i i1 i2 i5 i7 _ _ _ _ _
  unfold gf_4_moveRow
  rw [h10, h11]
  generalize gf_4_writeMovedRow R nd g (nI F) (nI M) = g3 at hE hup kp ⊢
  have L3 : lvD nd g3 = lvD nd g := lvD_eq (hE.2.2.2 0 (by decide)) (hE.2.2.2 10 (by decide))
  have F3 := fam_eq L3
  have sup3 : ∀ d, sup4 g3 d = sup4 g d := by
    intro d
    unfold sup4
    rw [hE.2.2.2 0 (by decide), hE.2.2.2 1 (by decide), hE.2.2.2 2 (by decide), hE.2.2.2 3 (by decide)]
  have e9 : g3.2.1 9 = g.2.1 9 := hE.2.2.2 9 (by decide)
  have pre3 : PRE R (lvD nd g3) S N M F X g3 t := by
    obtain ⟨p1, p2, p3, p4, p5, p6⟩ := pre
    have ej : ∀ d, jh g3 S d ↔ jh g S d := by
      intro d
      unfold jh
      rw [hE.2.2.2 4 (by decide), hE.2.2.2 5 (by decide)]
    rw [L3]
    refine ⟨p1, fun d r x1 x2 x3 x4 => ?_, fun d x1 x2 => ?_, fun d e f x1 x2 => p4 d e f x1 ((ej d).mp x2), by rw [e9]; exact p5, ?_⟩
    · rw [hE.2.1 d r (fun z => x4 ⟨hNM, z.1⟩)]
      exact p2 d r x1 x2 x3 x4
    · obtain ⟨A, v, p, j, y⟩ := p3 d x1 ((ej d).mp x2)
      refine ⟨A, v, p, ?_, y⟩
      unfold JD at *
      rw [hE.2.2.2 6 (by decide), hE.2.2.2 7 (by decide), hE.2.2.2 8 (by decide), hE.2.2.1 2 (by decide)]
      exact j
    · unfold BKR at *
      rw [e9, hE.2.2.1 3 (by decide)]
      exact p6
  have rfu3 : RFU (lvD nd g3) (fam nd g3) S N M F (fun _ _ => False) X g3 := by
    refine Or.inr ⟨hNM, rf.imp id (fun z l hl => ?_)⟩
    rw [F3] at hl
    rw [e9]
    rcases fam_01 one hn.1 hl with w | w
    · exact ⟨0, w, z 0 (fam_sub hl 0 w)⟩
    · exact ⟨1, w, z 1 (fam_sub hl 1 w)⟩
  have dau3 : DAU R (lvD nd g3) (fam nd g3) S N M F g3 t := pre3.dau rfu3
  rcases hup with ⟨u1, u2⟩ | u1
  · -- the row is moved
    subst u2
    have cl : ∀ {N2 M2 F2 : Nat}, Good R N2 M2 F2 (mvX k F X (t.2.2 1)) (t.2.2 1) → (∀ r, r < R → wrN N2 M2 F2 r = if r = F then k else wrN N k F r) → CLX R (fun d => lvD nd g3 d ∨ (d < nd ∧ nI d = (-1 : Int32))) (S + 1) N2 M2 F2 (mvX k F X (t.2.2 1)) g3 t := by
      intro N2 M2 F2 gd hw
      have hl9 : ∀ d, (lvD nd g3 d ∨ (d < nd ∧ nI d = (-1 : Int32))) → lvD nd g d := by
        intro d z
        rcases z with z | z
        · rw [← L3]; exact z
        · exact absurd z.2 (nI_m1 (by omega))
      refine ⟨gd, fun d r x1 x2 x3 => ?_, fun d x1 x2 => ?_, fun d x1 => ?_⟩
      · have lv := hl9 d x1
        rw [hw r x2] at x3
        by_cases c : r = F
        · subst c
          rw [if_pos rfl] at x3
          rw [hE.1 d x3 lv]
          unfold mvX
          rw [if_pos rfl]
        · rw [if_neg c] at x3
          rw [hE.2.1 d r (fun z => c z.1), pre.2.1 d r lv x2 x3 (fun z => c z.2)]
          unfold mvX
          rw [if_neg c]
      · refine hj d (hl9 d x1) ?_
        unfold jh at *
        rw [hE.2.2.2 4 (by decide), hE.2.2.2 5 (by decide)] at x2
        exact x2
      · obtain ⟨q, y1, y2⟩ := pre.2.2.2.2.1 d (hl9 d x1)
        exact ⟨q, by omega, by rw [e9]; exact y2⟩
    have h83 : g3.1 8 = nI S := (kp 8 (by decide) (by decide) (by decide) (by decide)).trans h8
    have h93 : g3.1 9 = nI N := (kp 9 (by decide) (by decide) (by decide) (by decide)).trans h9
    have fin : ∀ {N2 M2 F2 : Nat}, bd4 (S + 1) N2 M2 F2 → CLX R (fun d => lvD nd g3 d ∨ (d < nd ∧ nI d = (-1 : Int32))) (S + 1) N2 M2 F2 (mvX k F X (t.2.2 1)) g3 t →
        ((if (gf_4_setSuper R nd g3 (nI N2) (nI M2) (nI F2) (-1)).1 1 = 0 then gf_4_setSuper R nd g3 (nI N2) (nI M2) (nI F2) (-1) else gsi (gf_4_setSuper R nd g3 (nI N2) (nI M2) (nI F2) (-1)) 6 ((gf_4_setSuper R nd g3 (nI N2) (nI M2) (nI F2) (-1)).1 6 + 1)).1 1 = 1 ∧ lvD nd (if (gf_4_setSuper R nd g3 (nI N2) (nI M2) (nI F2) (-1)).1 1 = 0 then gf_4_setSuper R nd g3 (nI N2) (nI M2) (nI F2) (-1) else gsi (gf_4_setSuper R nd g3 (nI N2) (nI M2) (nI F2) (-1)) 6 ((gf_4_setSuper R nd g3 (nI N2) (nI M2) (nI F2) (-1)).1 6 + 1)) = lvD nd g ∧ UPE R nd (if (gf_4_setSuper R nd g3 (nI N2) (nI M2) (nI F2) (-1)).1 1 = 0 then gf_4_setSuper R nd g3 (nI N2) (nI M2) (nI F2) (-1) else gsi (gf_4_setSuper R nd g3 (nI N2) (nI M2) (nI F2) (-1)) 6 ((gf_4_setSuper R nd g3 (nI N2) (nI M2) (nI F2) (-1)).1 6 + 1)) T) ∨ ((if (gf_4_setSuper R nd g3 (nI N2) (nI M2) (nI F2) (-1)).1 1 = 0 then gf_4_setSuper R nd g3 (nI N2) (nI M2) (nI F2) (-1) else gsi (gf_4_setSuper R nd g3 (nI N2) (nI M2) (nI F2) (-1)) 6 ((gf_4_setSuper R nd g3 (nI N2) (nI M2) (nI F2) (-1)).1 6 + 1)).1 1 = 0 ∧ DND R nd (if (gf_4_setSuper R nd g3 (nI N2) (nI M2) (nI F2) (-1)).1 1 = 0 then gf_4_setSuper R nd g3 (nI N2) (nI M2) (nI F2) (-1) else gsi (gf_4_setSuper R nd g3 (nI N2) (nI M2) (nI F2) (-1)) 6 ((gf_4_setSuper R nd g3 (nI N2) (nI M2) (nI F2) (-1)).1 6 + 1)) T) := by
      intro N2 M2 F2 b2 hc
      have key := SETD (R := R) (T := T) hn.2 u1 h83 bd b2 (fun d z => (sup3 d).trans (hsup d (by rw [← L3]; exact z))) dau3 hc (fun d hd z => absurd z (nI_m1 (by omega))) hT1 hT2
      generalize gf_4_setSuper R nd g3 (nI N2) (nI M2) (nI F2) (-1) = G at key ⊢
      rcases key with ⟨v1, v2, v3, v4⟩ | ⟨v1, v2⟩
      · rw [if_neg (show ¬ G.1 1 = 0 by rw [v1]; decide)]
        refine Or.inl ⟨v1, ?_, S + 1, N2, M2, F2, mvX k F X (t.2.2 1), b2, v2, v4⟩
        rw [← L3]
        funext d
        exact propext ((v3 d).trans ⟨fun z => z.elim id (fun w => absurd w.2 (nI_m1 (by have := w.1; omega))), Or.inl⟩)
      · rw [if_pos v1]
        exact Or.inr ⟨v1, v2⟩
    have gm := pre.1.mv n3 nM hF
    by_cases c : F + 1 = R
    · rw [if_pos (show nI R ≤ nI F + 1 by rw [nI_1, c]; exact Int32.le_refl _)]
      refine fin (N2 := k) (M2 := k) (F2 := 0) ⟨by omega, by omega, by omega, Nat.le_refl _, m10, by omega, fun _ => rfl⟩ (cl (Good.fin nM (by rw [c] at gm; exact gm)) (fun r hr => ?_))
      unfold wrN
      by_cases q : r = F
      · rw [if_pos q, if_neg (by omega)]
      · rw [if_neg q, if_neg (by omega), if_pos (by omega)]
    · rw [if_neg (show ¬ nI R ≤ nI F + 1 by rw [nI_1]; exact nI_ge (by omega) (by omega)), h93, nI_1]
      refine fin (N2 := N) (M2 := k) (F2 := F + 1) ⟨by omega, by omega, n3, nM, m10, by omega, fun z => by omega⟩ (cl gm (fun r hr => ?_))
      by_cases q : r = F
      · rw [if_pos q]
        unfold wrN
        rw [if_pos (by omega)]
      · rw [if_neg q]
        exact mv_wr q
  · have dn : ∀ n0 m0 f, gf_4_setSuper R nd g3 n0 m0 f (-1) = g3 := fun _ _ _ => dn_set u1
    have res : DND R nd g3 T := by
      have ag : AG g3 t g3 T := ⟨fun _ _ _ => rfl, fun _ _ _ => rfl, hT1, hT2⟩
      exact Or.inl ⟨S, N, M, F, bd, fun d z => (sup3 d).trans (hsup d (by rw [← L3]; exact z)), ag.dau dau3⟩
    rw [dn, dn, if_pos u1, ite_self]
    exact Or.inr ⟨u1, res⟩
end ST
