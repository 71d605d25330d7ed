/-! ===== THE BLOCKS: the calls cut, fail, replace, add, grow ===== -/
section OD
variable {R nd b : Nat} {g : GS} {t : MS}
theorem AG.of {G : GS} {T : MS} (e2 : G.2 = g.2) (hT : KV t T) : AG g t G T := ⟨fun _ _ _ => by rw [e2], fun _ _ _ => by rw [e2], hT.2.1, hT.1⟩
theorem DN1.cg {G : GS} {T : MS} {lv : Nat → Prop} {fm : (Nat → Prop) → Prop} (h : DN1 R lv fm g t) (e2 : G.2 = g.2) (hT : KV t T) : DN1 R lv fm G T := by
  obtain ⟨S, N, M, F, bd, hs, hd⟩ := h
  refine ⟨S, N, M, F, bd, fun d z => ?_, (AG.of e2 hT).dau hd⟩
  unfold sup4
  rw [e2]
  exact hs d z
theorem DND.cg {G : GS} {T : MS} (h : DND R nd g t) (e2 : G.2 = g.2) (hT : KV t T) : DND R nd G T := by
  have eL : lvD nd G = lvD nd g := lvD_eq (by rw [e2]) (by rw [e2])
  have eS : ∀ d, sup4 G d = sup4 g d := fun d => by unfold sup4; rw [e2]
  unfold DND DN2
  rw [fam_eq eL, eL]
  refine h.imp (fun z => z.cg e2 hT) (fun ⟨S, N, M, F, X, bd, h1, h2, h3, h4⟩ => ⟨S, N, M, F, X, bd, ?_, ?_, (AG.of e2 hT).clx h3, fun q1 e q2 q3 => ?_⟩)
  · obtain ⟨d, z1, z2⟩ := h1
    exact ⟨d, z1, (eS d).trans z2⟩
  · rw [e2]
    exact h2
  · exact (h4 q1 e q2 (fun d w1 w2 w3 => q3 d w1 w2 ((eS d).trans w3))).cg e2 hT
theorem UPD.cg {G : GS} {T : MS} (h : UPD R nd g t) (e2 : G.2 = g.2) (hT : KV t T) (e3 : G.1 3 = g.1 3) (e8 : hl4 G = hl4 g) : UPD R nd G T := by
  obtain ⟨S, N, M, F, X, bd, k1, k2, k3, k4, hx, hr⟩ := h
  have eL : lvD nd G = lvD nd g := lvD_eq (by rw [e2]) (by rw [e2])
  refine ⟨S, N, M, F, X, bd, (congrArg Prod.fst e8).trans k1, (congrArg (fun x : T4 => x.2.1) e8).trans k2, (congrArg (fun x : T4 => x.2.2.1) e8).trans k3, (congrArg (fun x : T4 => x.2.2.2) e8).trans k4, ?_, ?_⟩
  · rw [eL]
    exact (AG.of e2 hT).upx hx
  · rw [e2, e3]
    exact hr
theorem RB0.cg {G : GS} (h : RB0 nd g) (e2 : G.2 = g.2) : RB0 nd G := by
  unfold RB0 at *
  rw [e2]
  exact h
theorem DAT.cg {G : GS} {T : MS} (h : DAT R nd b g t) (e1 : G.1 1 = g.1 1) (e2 : G.2 = g.2) (hT : KV t T) (e3 : G.1 3 = g.1 3) (e8 : hl4 G = hl4 g) : DAT R nd (b + 1) G T := by
  obtain ⟨⟨c, hc, ec⟩, h0, h1, h2⟩ := h
  exact ⟨⟨c, by omega, hT.2.2.trans ec⟩, h0.cg e2, fun z => (h1 (e1.symm.trans z)).cg e2 hT e3 e8, fun z => (h2 (e1.symm.trans z)).cg e2 hT⟩
theorem DAT.th {v : Int32} (h : DAT R nd b g t) : DAT R nd (b + 1) g (si t 0 v) := h.cg rfl rfl (kv_si (by decide)) rfl rfl
theorem DAT.of_up {G : GS} {T : MS} (h : DAT R nd b g t) (hT : KV t T) (r : RB0 nd G) (u : G.1 1 = 1) (k : UPD R nd G T) : DAT R nd (b + 1) G T := by
  obtain ⟨⟨c, hc, ec⟩, -, -⟩ := h
  exact ⟨⟨c, by omega, hT.2.2.trans ec⟩, r, fun _ => k, fun z => absurd (u.symm.trans z) (by decide)⟩
theorem DAT.of_dn {G : GS} {T : MS} (h : DAT R nd b g t) (hT : KV t T) (r : RB0 nd G) (u : G.1 1 = 0) (k : DND R nd G T) : DAT R nd (b + 1) G T := by
  obtain ⟨⟨c, hc, ec⟩, -, -⟩ := h
  exact ⟨⟨c, by omega, hT.2.2.trans ec⟩, r, fun z => absurd (u.symm.trans z) (by decide), fun _ => k⟩
/-- the power went ahead of all writes -/
theorem up_dead {S N M F : Nat} {X : Nat → Nat → Int64} {G : GS} {T : MS} (bd : bd4 S N M F) (hF : F < R) (hsup : ∀ d, lvD nd g d → sup4 g d = q4 S N M F) (h : UPX R (lvD nd g) S N M F X g t) (e2 : G.2 = g.2) (hT : KV t T) : DND R nd G T := by
  have k : DND R nd g t := Or.inl ⟨S, N, M, F, bd, hsup, h.dau bd.2.1 hF⟩
  exact k.cg e2 hT
theorem dat_cut (h : DAT R nd b g t) (x : Int32) : DAT R nd (b + 1) (gf_4_cut R nd g x) (mf_cut R nd t x) := by
  unfold gf_4_cut mf_cut
  split
  · exact h.cg rfl rfl ((kv_si (by decide)).tr (kv_si (by decide))) rfl rfl
  · exact h.cg rfl rfl ((kv_si (by decide)).tr (kv_si (by decide))) rfl rfl
/-! fail -/
theorem dat_fail (hn : 3 ≤ nd ∧ nd ≤ 10) (h : INV R nd b g t) (hd : DAT R nd b g t) (x : Int32) : DAT R nd (b + 1) (gf_4_fail R nd g x).2 (mf_fail R nd t x).2 := by
  have hB := h.bi
  have nl := nl_eq (R := R) hn.2 (show MM nd nd g (si t 0 0) from hB.1) hB.2.2.2.2.2.1
  unfold gf_4_fail mf_fail
  by_cases c0 : x < 0
  · rw [if_pos c0, if_pos (gp_there0.mpr (Or.inl c0))]
    exact hd.th
  · rw [if_neg c0]
    by_cases c1 : nI nd ≤ x
    · rw [if_pos c1, if_pos (gp_there0.mpr (Or.inr c1))]
      exact hd.th
    · rw [if_neg c1, if_neg (by rw [gp_there0]; intro q; rcases q with q | q; exact c0 q; exact c1 q)]
      obtain ⟨d, hdn, rfl⟩ := vp_in_of (ix_of c0 c1 (Nat.le_refl nd) (by omega)) (by omega)
      rcases nl with ⟨n1, n2, n3⟩ | ⟨i, hi, n1, n2, n3⟩
      · rw [if_pos n1, if_pos n2, nI_clamp (by omega)]
        have hT : KV t (ti (si t 0 0) 0 d 1) := (kv_si (by decide)).tr (kv_ti (by decide))
        have all : ∀ e, e < nd → lvD nd g e := fun e he => (lvT hB.1 hn.2).mpr ⟨he, n3 e he⟩
        have eL : lvD nd (gdi g 10 d 1) = fun e => lvD nd g e ∧ ¬ e = d := by
          funext e
          apply propext
          unfold lvD
          by_cases z : e = d
          · subst z
            simp [gdi, va_up]
          · simp [gdi, va_up, z]
        have ag : AG g t (gdi g 10 d 1) (ti (si t 0 0) 0 d 1) := ⟨fun q x1 x2 => by simp [gdi, va_up, show ¬ q = 10 by omega], fun _ _ _ => rfl, hT.2.1, hT.1⟩
        have eS : ∀ e, sup4 (gdi g 10 d 1) e = sup4 g e := fun e => by simp [sup4, gdi, va_up]
        have nd' : ¬ ∀ e, e < nd → lvD nd (gdi g 10 d 1) e := by
          rw [eL]
          exact fun z => (z d hdn).2 rfl
        have fm : ∀ l, fam nd (gdi g 10 d 1) l → l = fun e => lvD nd g e ∧ ¬ e = d := by
          intro l z
          rcases z with z | z
          · rw [z, eL]
          · exact absurd z.1 nd'
        obtain ⟨⟨c, hc, ec⟩, hr0, hu, hw⟩ := hd
        refine ⟨⟨c, by omega, hT.2.2.trans ec⟩, fun e y1 y2 y3 => ?_, fun z => ?_, fun z => ?_⟩
        · have ne : ¬ e = d := fun w => by
            subst w
            simp [gdi, va_up] at y2
          have := hr0 e y1 (by simpa [gdi, va_up, ne] using y2) (by simpa [gdi, va_up] using y3)
          simpa [gdi, va_up] using this
        · obtain ⟨S, N, M, F, X, bd, k1, k2, k3, k4, hx, hr⟩ := hu z
          refine ⟨S, N, M, F, X, bd, k1, k2, k3, k4, ?_, fun e r y1 y2 y3 => ?_⟩
          · rw [eL]
            exact ag.upx (hx.sub (fun e w => w.1))
          · have ne : ¬ e = d := fun w => by
              subst w
              simp [gdi, va_up] at y2
            exact hr e r y1 (by simpa [gdi, va_up, ne] using y2) (by simpa [gdi, va_up] using y3)
        · rcases hw z with w | ⟨S, N, M, F, X, bd, h1, h2, h3, h4⟩
          · obtain ⟨S, N, M, F, bd, hs, hda⟩ := w
            refine Or.inl ⟨S, N, M, F, bd, fun e y => ?_, ag.dau (hda.sub (fun e y => by rw [eL] at y; exact y.1) (fun l y => ?_))⟩
            · rw [eL] at y
              exact (eS e).trans (hs e y.1)
            · rw [fm l y]
              exact Or.inr ⟨all, d, hdn, rfl⟩
          · by_cases ex : ∃ e, lvD nd g e ∧ ¬ e = d ∧ sup4 g e = q4 S N M F
            · refine Or.inr ⟨S, N, M, F, X, bd, ?_, fun e y => ?_, ?_, fun y => absurd y nd'⟩
              · obtain ⟨e, y1, y2, y3⟩ := ex
                exact ⟨e, by rw [eL]; exact ⟨y1, y2⟩, (eS e).trans y3⟩
              · rw [eL] at y
                obtain ⟨s, s1, s2⟩ := h2 e y.1
                exact ⟨s, s1, by simpa [gdi, va_up] using s2⟩
              · rw [eL]
                exact ag.clx (h3.sub (fun e y => y.1))
            · obtain ⟨S2, N2, M2, F2, bd2, hs2, hd2⟩ := h4 all d hdn (fun e y1 y2 y3 => ex ⟨e, y1, y2, y3⟩)
              refine Or.inl ⟨S2, N2, M2, F2, bd2, fun e y => ?_, ag.dau (hd2.sub (fun e y => by rw [eL] at y; exact y) (fun l y => fm l y))⟩
              rw [eL] at y
              exact (eS e).trans (hs2 e y)
      · rw [if_neg (by rw [n1]; exact nI_m1 (by omega)), if_neg (by rw [n2]; exact nI_m1 (by omega))]
        exact hd.th
/-! a disk that comes -/
theorem UPX.on {lv : Nat → Prop} {S N M F : Nat} {X : Nat → Nat → Int64} {G : GS} {T : MS} (h : UPX R lv S N M F X g t) (hd : ∀ d, lv d → (∀ q, 4 ≤ q → q ≤ 9 → G.2.1 q d = g.2.1 q d) ∧ ∀ q, 2 ≤ q → q ≤ 4 → G.2.2 q d = g.2.2 q d) (hT : KV t T) : UPX R lv S N M F X G T := by
  obtain ⟨h1, h2, h3, h4, h5⟩ := h
  have ej : ∀ d, lv d → (jh G S d ↔ jh g S d) := fun d z => by
    unfold jh
    rw [(hd d z).1 4 (by decide) (by decide), (hd d z).1 5 (by decide) (by decide)]
  refine ⟨by rw [hT.1]; exact h1, fun d r z1 z2 z3 => ?_, fun d z1 z2 => ?_, fun d e f z1 z2 => h4 d e f z1 ((ej d z1).mp z2), fun d z => ?_⟩
  · rw [(hd d z1).2 4 (by decide) (by decide)]
    exact h2 d r z1 z2 z3
  · obtain ⟨A, v, p, j, y⟩ := h3 d z1 ((ej d z1).mp z2)
    refine ⟨A, v, p, ?_, y⟩
    unfold JD at *
    rw [(hd d z1).1 6 (by decide) (by decide), (hd d z1).1 7 (by decide) (by decide), (hd d z1).1 8 (by decide) (by decide), (hd d z1).2 2 (by decide) (by decide), hT.2.1, hT.1]
    exact j
  · rw [(hd d z).1 9 (by decide) (by decide)]
    exact h5 d z
theorem UPX.add {lv : Nat → Prop} {S N M F i : Nat} {X : Nat → Nat → Int64} (hN : N ≤ M) (hS : 1 ≤ S) (hi : M ≤ i) (h : UPX R lv S N M F X g t) (h5 : ¬ 0 < g.2.1 5 i) (h9 : g.2.1 9 i = 0) (hJ : ∀ d, lv d → jh g S d → i < d → False) : UPX R (fun d => lv d ∨ d = i) S N M F X g t := by
  obtain ⟨a1, a2, a3, a4, a5⟩ := h
  have ni : ¬ jh g S i := fun z => h5 z.2
  refine ⟨a1, fun d r z1 z2 z3 => ?_, fun d z1 z2 => ?_, fun d e f z1 z2 z3 z4 z5 z6 => ?_, fun d z => ?_⟩
  · rcases z1 with z1 | z1
    · exact a2 d r z1 z2 z3
    · exfalso
      have : wrN N M F r ≤ M := by unfold wrN; split <;> omega
      omega
  · rcases z1 with z1 | z1
    · exact a3 d z1 z2
    · rw [z1] at z2
      exact absurd z2 ni
  · rcases z1 with z1 | z1
    · rcases z3 with z3 | z3
      · rcases z4 with z4 | z4
        · exact a4 d e f z1 z2 z3 z4 z5 z6
        · exact hJ d z1 z2 (by omega)
      · exact hJ d z1 z2 (by omega)
    · rw [z1] at z2
      exact ni z2
  · rcases z with z | z
    · exact a5 d z
    · exact ⟨0, by omega, by rw [z, h9]; rfl⟩
theorem renew_b_l {d : Nat} : ∀ (j k : Nat) (g1 : GS), ∀ q e, ¬ e = d → (gg_1_renew_d_2 R nd d j k g1).2.2 q e = g1.2.2 q e := by
  intro j
  induction j with
  | zero => intro k g1 q e _; rfl
  | succ j ih =>
    intro k g1 q e he
    rw [gg_1_renew_d_2]
    split
    · by_cases c : q = 2
      · subst c
        simp [gf_2_erase_j, gf_2_tell_j, gf_3_tell_s, gli, gdi, va_up, he]
      · simp [gf_2_erase_j, gf_2_tell_j, gf_3_tell_s, gli, gdi, va_up, c]
    · rw [ih (k + 1) _ q e he]
      by_cases c : q = 4
      · subst c
        simp [gli, va_up, he]
      · simp [gli, va_up, c]
theorem renew_b {d q e : Nat} (he : ¬ e = d) : (gf_1_renew_d R nd g d).2.2 q e = g.2.2 q e := renew_b_l _ _ _ q e he
theorem kv_fresh {d : Int32} : KV t (mf_fresh R nd t d) := by
  unfold mf_fresh
  exact ((((kv_ti (by decide)).tr (kv_ti (by decide))).tr (kv_ti (by decide))).tr (kv_ti (by decide))).tr kv_tells
theorem dat_replace (hn : 3 ≤ nd ∧ nd ≤ 10) (hR : 2 ≤ R ∧ R ≤ 48) (hb : b ≤ 1000) (h : INV R nd b g t) (hd : DAT R nd b g t) : DAT R nd (b + 1) (gf_4_replace R nd g).2 (mf_replace R nd t).2 := by
  unfold gf_4_replace mf_replace
  rcases h with h | h
  · obtain ⟨hB, hu, hu2, h3, ⟨B, hB1, hB2⟩, hh⟩ := id h
    obtain ⟨S, N, M, F, X, bd, y1, y2, y3, y4, y5, y6, y7, y8, y9, y10⟩ := h.get hn hR (by omega) (hd.2.2.1 hu)
    obtain ⟨s1, s2, n3, nM, m10, f48, nF⟩ := id bd
    have h8 : g.1 8 = nI S := congrArg Prod.fst y5
    have h9 : g.1 9 = nI N := congrArg (fun x : T4 => x.2.1) y5
    have h10 : g.1 10 = nI M := congrArg (fun x : T4 => x.2.2.1) y5
    have h11 : g.1 11 = nI F := congrArg (fun x : T4 => x.2.2.2) y5
    have t3 : t.1 3 = nI M := congrArg (fun x : T4 => x.2.2.1) y4
    rw [if_neg (show ¬ g.1 1 = 0 by rw [hu]; decide), if_neg (show ¬ t.1 5 = 0 by rw [hu2]; decide)]
    rcases nl_eq (R := R) hn.2 (show MM nd nd g (si t 0 0) from hB.1) hB.2.2.2.2.2.1 with ⟨n1, n2, n3'⟩ | ⟨i, hi, n1, n2, n3'⟩
    · rw [if_pos n1, if_pos n2]
      exact hd.th
    · have hc : (nI i).toNatClampNeg = i := nI_clamp (by omega)
      rw [n1, n2, if_neg (nI_m1 (by omega)), if_neg (nI_m1 (by omega)), hc]
      have li : ¬ t.2.1 0 i = 0 := n3'
      have nli : ¬ lvD nd g i := fun z => li ((lvT hB.1 hn.2).mp z).2
      have oth : ∀ d, d < nd → ¬ d = i → lvD nd g d := fun d hd hne => Classical.byContradiction (fun z => hne (y9 d i hd hi z nli))
      rcases hB.1.2.2.1 i hi (by omega) with ⟨s1', s2'⟩ | ⟨s1', s2', s3'⟩ | ⟨s1', s2', s3'⟩
      · rw [s1', s2', if_neg (show ¬ (1 : Int32) = 0 by decide), if_pos rfl]
        by_cases c : i < M
        · have sp : gf_4_isSpare R nd g (nI i) = 0 := by
            unfold gf_4_isSpare
            rw [h10, if_pos (nI_lt c (by omega))]
          rw [if_pos sp, if_pos (show nI i < t.1 3 by rw [t3]; exact nI_lt c (by omega))]
          obtain ⟨w1, w2⟩ := renew_eq (R := R) (nd := nd) (g := g) (d := i) hR.2
          have hT : KV t (si (mf_tells R nd (ti (ti (ti (ti (si t 0 0) 0 i 2) 1 i 0) 6 i 0) 9 i 0) (nI i) 0 0 0 0) 7 0) := ((((((kv_si (by decide)).tr (kv_ti (by decide))).tr (kv_ti (by decide))).tr (kv_ti (by decide))).tr (kv_ti (by decide))).tr kv_tells).tr (kv_si (by decide))
          refine hd.of_up hT (fun e z1 z2 z3 => ?_) (by show va_up (gf_1_renew_d R nd g i).1 3 0 1 = 1; rw [va_up_ne _ _ (by decide), w1]; exact hu) ?_
          · have we : ∀ q, (gsi (gf_1_renew_d R nd g i) 3 0).2.1 q e = if e = i ∧ q < 12 then 0 else g.2.1 q e := fun q => w2 q e
            by_cases ne : e = i
            · rw [we, if_pos ⟨ne, by decide⟩]
            · rw [we, if_neg (fun w => ne w.1)] at z2 z3 ⊢
              exact hd.2.1 e z1 z2 z3
          have g1 : ∀ z, ¬ z = 3 → (gsi (gf_1_renew_d R nd g i) 3 0).1 z = g.1 z := fun z hz => by
            show va_up (gf_1_renew_d R nd g i).1 3 0 z = _
            rw [va_up_ne _ _ hz, w1]
          have eL : lvD nd (gsi (gf_1_renew_d R nd g i) 3 0) = lvD nd g := by
            funext e
            apply propext
            by_cases z : e = i
            · subst z
              refine ⟨fun q => ?_, fun q => absurd q nli⟩
              exact absurd (show (gf_1_renew_d R nd g e).2.1 0 e = 0 by rw [w2, if_pos ⟨rfl, by decide⟩]) q.2.2
            · unfold lvD
              rw [show (gsi (gf_1_renew_d R nd g i) 3 0).2.1 10 e = g.2.1 10 e by show (gf_1_renew_d R nd g i).2.1 10 e = _; rw [w2, if_neg (fun q => z q.1)], show (gsi (gf_1_renew_d R nd g i) 3 0).2.1 0 e = g.2.1 0 e by show (gf_1_renew_d R nd g i).2.1 0 e = _; rw [w2, if_neg (fun q => z q.1)]]
          refine ⟨S, N, M, F, X, bd, (g1 8 (by decide)).trans h8, (g1 9 (by decide)).trans h9, (g1 10 (by decide)).trans h10, (g1 11 (by decide)).trans h11, ?_, fun d r _ _ _ z zr _ => ?_⟩
          · rw [eL]
            refine y7.on (fun d z => ?_) hT
            have ne : ¬ d = i := fun w => nli (w ▸ z)
            exact ⟨fun q _ _ => by show (gf_1_renew_d R nd g i).2.1 q d = _; rw [w2, if_neg (fun w => ne w.1)], fun q _ _ => renew_b ne⟩
          · exfalso
            apply z
            show va_up (gf_1_renew_d R nd g i).1 3 0 3 ≤ nI r
            rw [va_up_self]
            exact nI_pos' (by omega)
        · have sp : ¬ gf_4_isSpare R nd g (nI i) = 0 := by
            unfold gf_4_isSpare
            rw [h10, if_neg (nI_nlt (by omega) (by omega))]
            decide
          rw [if_neg sp, if_neg (show ¬ nI i < t.1 3 by rw [t3]; exact nI_nlt (by omega) (by omega))]
          by_cases cp : t.1 6 = 0
          · obtain ⟨x1, x2, x3, x4⟩ := dead1 (R := R) hn.2 hb h cp
            rw [if_pos x2, if_pos x3]
            exact hd.of_dn ((kv_si (by decide)).tr kv_lasts) (hd.2.1.cg spend_arr) (by rw [spend_no hu (by rw [hB.1.1.1]; exact cp)]; rfl) (up_dead bd y3 y6 y7 spend_arr ((kv_si (by decide)).tr kv_lasts))
          · rw [spend_ok hu (by rw [hB.1.1.1]; exact cp), lasts_ok (show ¬ (si t 0 0).1 6 = 0 from cp), if_neg (show ¬ (1 : Int32) = 0 by decide), if_neg (show ¬ (1 : Int32) = 0 by decide)]
            show DAT R nd (b + 1) (gf_1_takeSuper__d_h R nd (gf_1_renew_d R nd (gsi (gsi g 2 (dec9 (g.1 2))) 5 (g.1 5 + 1)) i) i) (mf_fresh R nd (si (si (si t 0 0) 6 (dec9 (t.1 6))) 9 ((si (si t 0 0) 6 (dec9 (t.1 6))).1 9 + 1)) (nI i))
            have hT : KV t (mf_fresh R nd (si (si (si t 0 0) 6 (dec9 (t.1 6))) 9 ((si (si t 0 0) 6 (dec9 (t.1 6))).1 9 + 1)) (nI i)) := (((kv_si (by decide)).tr (kv_si (by decide))).tr (kv_si (by decide))).tr kv_fresh
            generalize mf_fresh R nd (si (si (si t 0 0) 6 (dec9 (t.1 6))) 9 ((si (si t 0 0) 6 (dec9 (t.1 6))).1 9 + 1)) (nI i) = T at hT ⊢
            obtain ⟨w1, w2⟩ := renew_eq (R := R) (nd := nd) (g := gsi (gsi g 2 (dec9 (g.1 2))) 5 (g.1 5 + 1)) (d := i) hR.2
            have w3 : ∀ q e, ¬ e = i → (gf_1_renew_d R nd (gsi (gsi g 2 (dec9 (g.1 2))) 5 (g.1 5 + 1)) i).2.2 q e = g.2.2 q e := fun q e he => renew_b he
            generalize gf_1_renew_d R nd (gsi (gsi g 2 (dec9 (g.1 2))) 5 (g.1 5 + 1)) i = G0 at w1 w2 w3 ⊢
            have g0 : ∀ z, ¬ z = 2 → ¬ z = 5 → G0.1 z = g.1 z := fun z h2 h5 => by rw [w1]; simp [gsi, va_up, h2, h5]
            have eT : gf_1_takeSuper__d_h R nd G0 i = gf_1_takeSuper_d R nd G0 i (nI S) (nI N) (nI M) (nI F) := by
              rw [← h8, ← h9, ← h10, ← h11, ← g0 8 (by decide) (by decide), ← g0 9 (by decide) (by decide), ← g0 10 (by decide) (by decide), ← g0 11 (by decide) (by decide)]
              rfl
            rw [eT]
            have sG := fun d => ts_sup (R := R) (nd := nd) (g := G0) (k := i) (d := d) (sq := nI S) (n0 := nI N) (m0 := nI M) (f := nI F)
            have qG := fun q h4 h11 => ts_q (R := R) (nd := nd) (g := G0) (k := i) (q := q) (sq := nI S) (n0 := nI N) (m0 := nI M) (f := nI F) h4 h11
            have G1 := (takeSuper_eq (R := R) (nd := nd) (g := G0) (k := i) (sq := nI S) (n0 := nI N) (m0 := nI M) (f := nI F)).1
            have G22 : (gf_1_takeSuper_d R nd G0 i (nI S) (nI N) (nI M) (nI F)).2.2 = G0.2.2 := rfl
            generalize gf_1_takeSuper_d R nd G0 i (nI S) (nI N) (nI M) (nI F) = G at sG qG G1 G22 ⊢
            have G1' : ∀ z, ¬ z = 2 → ¬ z = 5 → G.1 z = g.1 z := fun z z2 z5 => by rw [G1]; exact g0 z z2 z5
            have qe : ∀ q e, 4 ≤ q → ¬ q = 11 → ¬ e = i → G.2.1 q e = g.2.1 q e := fun q e x1 x2 he => by
              rw [qG q x1 x2, w2, if_neg (fun w => he w.1)]
              rfl
            have qi : ∀ q, 4 ≤ q → q < 11 → G.2.1 q i = 0 := fun q x1 x2 => by
              rw [qG q x1 (by omega), w2, if_pos ⟨rfl, by omega⟩]
            have se : ∀ e, ¬ e = i → G.2.1 0 e = g.2.1 0 e := fun e he => by
              have := congrArg Prod.fst (sG e)
              rw [if_neg he] at this
              rw [show G.2.1 0 e = G0.2.1 0 e from this, w2, if_neg (fun w => he w.1)]
              rfl
            have s0 : G.2.1 0 i = nI S := by
              have := congrArg Prod.fst (sG i)
              rw [if_pos rfl] at this
              exact this
            have eL : lvD nd G = fun e => lvD nd g e ∨ e = i := by
              funext e
              apply propext
              by_cases z : e = i
              · refine ⟨fun _ => Or.inr z, fun _ => ?_⟩
                rw [z]
                exact ⟨hi, qi 10 (by decide) (by decide), by rw [s0]; exact nI_ne0 (by omega) (by omega)⟩
              · unfold lvD
                rw [qe 10 e (by decide) (by decide) z, se e z]
                exact ⟨Or.inl, fun q => q.elim id (fun w => absurd w z)⟩
            have nz : ∀ d, d < nd → ¬ G.2.1 0 d = 0 := by
              intro d z1 z3
              by_cases z : d = i
              · rw [z, s0] at z3
                exact nI_ne0 (by omega) (by omega) z3
              · exact (oth d z1 z).2.2 (by rw [← se d z]; exact z3)
            refine hd.of_up hT (fun e z1 _ z3 => absurd z3 (nz e z1)) ((G1' 1 (by decide) (by decide)).trans hu) ⟨S, N, M, F, X, bd, (G1' 8 (by decide) (by decide)).trans h8, (G1' 9 (by decide) (by decide)).trans h9, (G1' 10 (by decide) (by decide)).trans h10, (G1' 11 (by decide) (by decide)).trans h11, ?_, fun d r z1 z2 z3 => ?_⟩
            · rw [eL]
              refine UPX.add nM s1 (show M ≤ i by omega) (y7.on (fun d z => ?_) hT) (by rw [qi 5 (by decide) (by decide)]; decide) (qi 9 (by decide) (by decide)) (fun d z1 z2 z3 => ?_)
              · have ne : ¬ d = i := fun w => nli (w ▸ z)
                exact ⟨fun q x1 x2 => qe q d x1 (by omega) ne, fun q _ _ => by rw [G22]; exact w3 q d ne⟩
              · have ne : ¬ d = i := fun w => nli (w ▸ z1)
                refine y7.2.2.2.1 d 0 1 z1 ?_ (oth 0 (by omega) (by omega)) (oth 1 (by omega) (by omega)) (by omega) (by omega)
                unfold jh at *
                rw [qe 4 d (by decide) (by decide) ne, qe 5 d (by decide) (by decide) ne] at z2
                exact z2
            · exact absurd z3 (nz d z1)
      · exact absurd s1' li
      · rw [s1', s2', if_pos rfl, if_neg (show ¬ (2 : Int32) = 1 by decide)]
        exact hd.th
  · rw [if_pos h.2.1, if_pos h.2.2.1]
    exact hd.th
theorem dat_add (hn : 3 ≤ nd ∧ nd ≤ 10) (hR : 2 ≤ R ∧ R ≤ 48) (hb : b ≤ 1000) (h : INV R nd b g t) (hd : DAT R nd b g t) (y : Int64) : DAT R (mf_add R nd t).2.1 (b + 1) (lr_add R nd g y).2.2.1 (mf_add R nd t).2.2 := by
  unfold lr_add mf_add gf_4_add
  rcases h with h | h
  · obtain ⟨hB, hu, hu2, h3, ⟨B, hB1, hB2⟩, hh⟩ := id h
    obtain ⟨S, N, M, F, X, bd, y1, y2, y3, y4, y5, y6, y7, y8, y9, y10⟩ := h.get hn hR (by omega) (hd.2.2.1 hu)
    obtain ⟨s1, s2, n3, nM, m10, f48, nF⟩ := id bd
    have h8 : g.1 8 = nI S := congrArg Prod.fst y5
    have h9 : g.1 9 = nI N := congrArg (fun x : T4 => x.2.1) y5
    have h10 : g.1 10 = nI M := congrArg (fun x : T4 => x.2.2.1) y5
    have h11 : g.1 11 = nI F := congrArg (fun x : T4 => x.2.2.2) y5
    rw [if_neg (show ¬ g.1 1 = 0 by rw [hu]; decide), if_neg (show ¬ t.1 5 = 0 by rw [hu2]; decide)]
    by_cases c : nd = 10
    · have c1 : nI nd = 10 := by rw [c]; rfl
      rw [if_pos c1, if_neg (by rw [c1]; decide)]
      exact hd.th
    · have c1 : ¬ nI nd = 10 := fun q => c (nI_inj (b := 10) (by omega) (by decide) q)
      have c2 : nI nd < 10 := by
        rw [show (10 : Int32) = nI 10 from rfl]
        exact Int32.not_le.mp (nI_ge (show nd < 10 by omega) (by decide))
      rw [if_neg c1, if_pos c2]
      by_cases cp : t.1 6 = 0
      · obtain ⟨x1, x2, x3, x4⟩ := dead1 (R := R) hn.2 hb h cp
        rw [if_pos x2, if_pos x3]
        exact hd.of_dn ((kv_si (by decide)).tr kv_lasts) (hd.2.1.cg spend_arr) (by rw [spend_no hu (by rw [hB.1.1.1]; exact cp)]; rfl) (up_dead bd y3 y6 y7 spend_arr ((kv_si (by decide)).tr kv_lasts))
      · rw [spend_ok hu (by rw [hB.1.1.1]; exact cp), lasts_ok (show ¬ (si t 0 0).1 6 = 0 from cp), if_neg (show ¬ (1 : Int32) = 0 by decide), if_neg (show ¬ (1 : Int32) = 0 by decide)]
        show DAT R (nd + 1) (b + 1) (gf_1_takeSuper__d_h R nd (gsi (gsi g 2 (dec9 (g.1 2))) 5 (g.1 5 + 1)) nd) (mf_fresh R nd (si (si (si t 0 0) 6 (dec9 (t.1 6))) 9 ((si (si t 0 0) 6 (dec9 (t.1 6))).1 9 + 1)) (nI nd))
        have hT : KV t (mf_fresh R nd (si (si (si t 0 0) 6 (dec9 (t.1 6))) 9 ((si (si t 0 0) 6 (dec9 (t.1 6))).1 9 + 1)) (nI nd)) := (((kv_si (by decide)).tr (kv_si (by decide))).tr (kv_si (by decide))).tr kv_fresh
        generalize mf_fresh R nd (si (si (si t 0 0) 6 (dec9 (t.1 6))) 9 ((si (si t 0 0) 6 (dec9 (t.1 6))).1 9 + 1)) (nI nd) = T at hT ⊢
        generalize eG0 : gsi (gsi g 2 (dec9 (g.1 2))) 5 (g.1 5 + 1) = G0
        have g0 : ∀ z, ¬ z = 2 → ¬ z = 5 → G0.1 z = g.1 z := fun z h2 h5 => by rw [← eG0]; simp [gsi, va_up, h2, h5]
        have g02 : G0.2 = g.2 := by rw [← eG0]; rfl
        have eT : gf_1_takeSuper__d_h R nd G0 nd = gf_1_takeSuper_d R nd G0 nd (nI S) (nI N) (nI M) (nI F) := by
          rw [← h8, ← h9, ← h10, ← h11, ← g0 8 (by decide) (by decide), ← g0 9 (by decide) (by decide), ← g0 10 (by decide) (by decide), ← g0 11 (by decide) (by decide)]
          rfl
        rw [eT]
        have sG := fun d => ts_sup (R := R) (nd := nd) (g := G0) (k := nd) (d := d) (sq := nI S) (n0 := nI N) (m0 := nI M) (f := nI F)
        have qG := fun q h4 h11 => ts_q (R := R) (nd := nd) (g := G0) (k := nd) (q := q) (sq := nI S) (n0 := nI N) (m0 := nI M) (f := nI F) h4 h11
        have G1 := (takeSuper_eq (R := R) (nd := nd) (g := G0) (k := nd) (sq := nI S) (n0 := nI N) (m0 := nI M) (f := nI F)).1
        have G22 : (gf_1_takeSuper_d R nd G0 nd (nI S) (nI N) (nI M) (nI F)).2.2 = G0.2.2 := rfl
        generalize gf_1_takeSuper_d R nd G0 nd (nI S) (nI N) (nI M) (nI F) = G at sG qG G1 G22 ⊢
        have G1' : ∀ z, ¬ z = 2 → ¬ z = 5 → G.1 z = g.1 z := fun z z2 z5 => by rw [G1]; exact g0 z z2 z5
        have qe : ∀ q, 4 ≤ q → ¬ q = 11 → G.2.1 q = g.2.1 q := fun q x1 x2 => by rw [qG q x1 x2, g02]
        have se : ∀ e, ¬ e = nd → G.2.1 0 e = g.2.1 0 e := fun e he => by
          have := congrArg Prod.fst (sG e)
          rw [if_neg he] at this
          rw [show G.2.1 0 e = G0.2.1 0 e from this, g02]
        have s0 : G.2.1 0 nd = nI S := by
          have := congrArg Prod.fst (sG nd)
          rw [if_pos rfl] at this
          exact this
        have b8 := hB.2.2.2.2.2.2.2 nd (Nat.le_refl _)
        have eL : lvD (nd + 1) G = fun e => lvD nd g e ∨ e = nd := by
          funext e
          apply propext
          by_cases z : e = nd
          · refine ⟨fun _ => Or.inr z, fun _ => ?_⟩
            rw [z]
            exact ⟨by omega, by rw [qe 10 (by decide) (by decide)]; exact b8.2.2.1, by rw [s0]; exact nI_ne0 (by omega) (by omega)⟩
          · unfold lvD
            rw [qe 10 (by decide) (by decide), se e z]
            exact ⟨fun q => Or.inl ⟨by omega, q.2⟩, fun q => q.elim (fun w => ⟨by omega, w.2⟩) (fun w => absurd w z)⟩
        have ag : AG g t G T := ⟨fun q x1 x2 => qe q x1 (by omega), fun q _ _ => by rw [G22, g02], hT.2.1, hT.1⟩
        have up : UPD R (nd + 1) G T := by
          refine ⟨S, N, M, F, X, bd, (G1' 8 (by decide) (by decide)).trans h8, (G1' 9 (by decide) (by decide)).trans h9, (G1' 10 (by decide) (by decide)).trans h10, (G1' 11 (by decide) (by decide)).trans h11, ?_, fun d r z1 z2 z3 z4 z5 z6 => ?_⟩
          · rw [eL]
            exact ag.upx (UPX.add nM s1 y2 y7 (by rw [b8.1]; decide) b8.2.1 (fun d z1 _ z3 => by have := z1.1; omega))
          · by_cases z : d = nd
            · rw [z, s0] at z3
              exact absurd z3 (nI_ne0 (by omega) (by omega))
            · rw [G22, g02]
              exact y8 d r (by omega) (by rw [← qe 10 (by decide) (by decide)]; exact z2) (by rw [← se d z]; exact z3) (by rw [← G1' 3 (by decide) (by decide)]; exact z4) z5 z6
        obtain ⟨⟨c, hc, ec⟩, hr0, -, -⟩ := hd
        refine ⟨⟨c, by omega, hT.2.2.trans ec⟩, fun d z1 z2 z3 => ?_, fun _ => up, ?_⟩
        · by_cases z : d = nd
          · rw [z, s0] at z3
            exact absurd z3 (nI_ne0 (by omega) (by omega))
          · rw [qe 9 (by decide) (by decide)]
            exact hr0 d (by omega) (by rw [← qe 10 (by decide) (by decide)]; exact z2) (by rw [← se d z]; exact z3)
        · exact fun z => absurd (((G1' 1 (by decide) (by decide)).trans hu).symm.trans z) (by decide)
  · rw [if_pos h.2.1, if_pos h.2.2.1]
    exact hd.th
/-! what stays blank -/
theorem rb0_ts {k : Nat} {sq n0 m0 f : Int32} (hs : ¬ sq = 0) (h : RB0 nd g) : RB0 nd (gf_1_takeSuper_d R nd g k sq n0 m0 f) := by
  intro d h1 h2 h3
  have e := congrArg Prod.fst (ts_sup (R := R) (nd := nd) (g := g) (k := k) (d := d) (sq := sq) (n0 := n0) (m0 := m0) (f := f))
  rw [ts_q (by decide) (by decide)] at h2 ⊢
  by_cases c : d = k
  · rw [if_pos c] at e
    exact absurd ((show (gf_1_takeSuper_d R nd g k sq n0 m0 f).2.1 0 d = sq from e).symm.trans h3) hs
  · rw [if_neg c] at e
    exact h d h1 h2 ((show (gf_1_takeSuper_d R nd g k sq n0 m0 f).2.1 0 d = g.2.1 0 d from e).symm.trans h3)
theorem rb0_set_l {n0 m0 f jo sq : Int32} (hs : ¬ sq = 0) : ∀ (j k : Nat) (g1 : GS), RB0 nd g1 → RB0 nd (gg_4_setSuper_14 R nd n0 m0 f jo j k sq g1) := by
  intro j
  induction j with
  | zero => intro k g1 h; exact h
  | succ j ih =>
    intro k g1 h
    have sp : RB0 nd (gf_4_spendWrite R nd g1).2 := h.cg spend_arr
    rw [gg_4_setSuper_14]
    repeat' split
    all_goals first
      | exact h
      | exact h.cg rfl
      | exact ih _ _ h
      | exact ih _ _ sp
      | exact ih _ _ (rb0_ts hs sp)
theorem rb0_set {n0 m0 f jo : Int32} (hs : ¬ g.1 8 + 1 = 0) (h : RB0 nd g) : RB0 nd (gf_4_setSuper R nd g n0 m0 f jo) := rb0_set_l hs _ _ _ h
theorem RB0.q {G : GS} (h : RB0 nd g) (h0 : G.2.1 0 = g.2.1 0) (h9 : G.2.1 9 = g.2.1 9) (h10 : G.2.1 10 = g.2.1 10) : RB0 nd G := by
  unfold RB0 at *
  rw [h0, h9, h10]
  exact h
/-! no disk is rebuilding -/
theorem rbc_of {G : GS} (hnr : ∀ d, d < nd → g.2.1 10 d = 0 → ¬ g.2.1 0 d = 0) (h10 : G.2.1 10 = g.2.1 10) (hL : lvD nd G = lvD nd g) : ∀ d, d < nd → G.2.1 10 d = 0 → ¬ G.2.1 0 d = 0 := by
  intro d h1 h2
  rw [h10] at h2
  have : lvD nd g d := ⟨h1, h2, hnr d h1 h2⟩
  rw [← hL] at this
  exact this.2.2
theorem no_rb (hnd : nd ≤ 10) (hB : BI R nd b g t) (h : gf_4_rebuildingDisk R nd g = -1) : ∀ d, d < nd → g.2.1 10 d = 0 → ¬ g.2.1 0 d = 0 := by
  intro d h1 h2 h3
  have nl : ¬ lvD nd g d := fun z => z.2.2 h3
  have st : ¬ t.2.1 0 d = 0 := fun z => nl ((lvT hB.1 hnd).mpr ⟨h1, z⟩)
  unfold gf_4_rebuildingDisk at h
  rcases nl_eq (R := R) hnd hB.1 hB.2.2.2.2.2.1 with ⟨n1, n2, n3⟩ | ⟨i, hi, n1, n2, n3⟩
  · exact st (n3 d h1)
  · have e : i = d := hB.2.2.2.2.2.1 i d hi h1 n3 st
    subst e
    rw [n1, if_neg (nI_m1 (by omega)), nI_clamp (by omega)] at h
    unfold gf_1_isRebuilding_d at h
    rw [if_pos h2, if_pos h3, if_neg (by decide)] at h
    exact nI_m1 (by omega) h
theorem UPE.up {G : GS} {T : MS} (h : UPE R nd G T) (hnr : ∀ d, d < nd → G.2.1 10 d = 0 → ¬ G.2.1 0 d = 0) : UPD R nd G T := by
  obtain ⟨S, N, M, F, X, bd, hl, hx⟩ := h
  exact ⟨S, N, M, F, X, bd, congrArg Prod.fst hl, congrArg (fun x : T4 => x.2.1) hl, congrArg (fun x : T4 => x.2.2.1) hl, congrArg (fun x : T4 => x.2.2.2) hl, hx, fun d r z1 z2 z3 => absurd z3 (hnr d z1 z2)⟩
theorem dat_grow (hn : 3 ≤ nd ∧ nd ≤ 10) (hR : 2 ≤ R ∧ R ≤ 48) (hb : b ≤ 1000) (h : INV R nd b g t) (hd : DAT R nd b g t) (y : Int64) : DAT R nd (b + 1) (lr_grow R nd g y).2.2.1 (mf_grow R nd t).2 := by
  have kvT : KV t (mf_grow R nd t).2 := by
    unfold mf_grow
    repeat' split
    all_goals first
      | exact kv_si (by decide)
      | exact (kv_si (by decide)).tr kv_sets
  generalize (mf_grow R nd t).2 = T at kvT ⊢
  unfold lr_grow gf_4_grow
  rcases h with h | h
  · obtain ⟨hB, hu, hu2, h3, ⟨B, hB1, hB2⟩, hh⟩ := id h
    obtain ⟨S, N, M, F, X, bd, y1, y2, y3, y4, y5, y6, y7, y8, y9, y10⟩ := h.get hn hR (by omega) (hd.2.2.1 hu)
    obtain ⟨s1, s2, n3, nM, m10, f48, nF⟩ := id bd
    have h8 : g.1 8 = nI S := congrArg Prod.fst y5
    have h9 : g.1 9 = nI N := congrArg (fun x : T4 => x.2.1) y5
    have h10 : g.1 10 = nI M := congrArg (fun x : T4 => x.2.2.1) y5
    have same : DAT R nd (b + 1) g T := hd.cg rfl rfl kvT rfl rfl
    rw [if_neg (show ¬ g.1 1 = 0 by rw [hu]; decide)]
    by_cases c1 : nI nd ≤ g.1 10
    · rw [if_pos c1]
      exact same
    · rw [if_neg c1]
      have hMn : M < nd := Nat.lt_of_not_le (fun z => c1 (by rw [h10]; exact nI_le z (by omega)))
      by_cases c2 : gf_4_isReshaped R nd g = 0
      · rw [if_pos c2]
        have hNM : N = M := by
          unfold gf_4_isReshaped at c2
          rw [h9, h10] at c2
          rcases Nat.lt_or_ge N M with q | q
          · rw [if_neg (nI_ge q (by omega))] at c2
            exact absurd c2 (by decide)
          · omega
        have hF0 := nF hNM
        subst hNM hF0
        by_cases c3 : gf_4_rebuildingDisk R nd g = -1
        · rw [if_pos c3, h9]
          have nr := no_rb hn.2 hB c3
          have key := SETD (R := R) (T := T) (N2 := N) (M2 := nd) (F2 := 0) (X2 := X) (jo := -1) hn.2 hu h8 bd ⟨by omega, by omega, n3, by omega, by omega, by omega, fun _ => rfl⟩ y6 (y7.dau s2 y3) ⟨y7.1.grow, fun d r z1 z2 z3 => ?_, fun d z1 => ?_, fun d z1 => ?_⟩ (fun d hd z => absurd z (nI_m1 (by omega))) kvT.2.1 kvT.1
          · have g10 := (GF_set (R := R) (g := g) (n0 := nI N) (m0 := nI nd) (f := nI 0) (jo := -1) hn.2).1 10 (by decide)
            have r0 : RB0 nd (gf_4_setSuper R nd g (nI N) (nI nd) (nI 0) (-1)) := rb0_set (by rw [h8, nI_1]; exact nI_ne_s s2) hd.2.1
            rw [nI_0] at key g10 r0
            generalize gf_4_setSuper R nd g (nI N) (nI nd) 0 (-1) = G at key g10 r0 ⊢
            rcases key with ⟨v1, v2, v3, v4⟩ | ⟨v1, v2⟩
            · rw [if_neg (show ¬ G.1 1 = 0 by rw [v1]; decide)]
              have eL : lvD nd G = lvD nd g := funext (fun d => propext ((v3 d).trans ⟨fun z => z.elim id (fun w => absurd w.2 (nI_m1 (by have := w.1; omega))), Or.inl⟩))
              refine hd.of_up kvT r0 v1 (UPE.up ⟨S + 1, N, nd, 0, X, ⟨by omega, by omega, n3, by omega, by omega, by omega, fun _ => rfl⟩, by rw [v2], v4⟩ (rbc_of nr g10 eL))
            · rw [if_pos v1]
              exact hd.of_dn kvT r0 v1 v2
          · have lv := z1.elim id (fun w => absurd w.2 (nI_m1 (by have := w.1; omega)))
            refine y7.2.1 d r lv z2 ?_
            unfold wrN at z3 ⊢
            rw [if_neg (by omega)] at z3 ⊢
            exact z3
          · have lv := z1.elim id (fun w => absurd w.2 (nI_m1 (by have := w.1; omega)))
            exact y10 d lv.1 lv.2.1
          · have lv := z1.elim id (fun w => absurd w.2 (nI_m1 (by have := w.1; omega)))
            obtain ⟨q, x1, x2⟩ := y7.2.2.2.2 d lv
            exact ⟨q, by omega, x2⟩
        · rw [if_neg c3]
          exact same
      · rw [if_neg c2]
        exact same
  · rw [if_pos h.2.1]
    exact hd.cg rfl rfl kvT rfl rfl
end OD
