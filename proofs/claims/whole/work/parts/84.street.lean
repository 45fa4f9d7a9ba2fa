/-! ===== a street told on the tape ===== -/
section Street
variable {A B X Y : MT}
theorem tkR_of (h : RT0 A B X Y) : tkR Y := by
  obtain ⟨⟨t1, t2, t3⟩, sz, _, en, _⟩ := h
  unfold tkR
  rw [← sz, ← en]
  exact ⟨t1, t2, t3⟩
theorem wp9_of (h : RT0 A B X Y) (ok : OKs X 4) : wp9 Y := by
  have ag := h.2.2.2.2.1
  unfold wp9
  rw [← ag.wc, ← ag.pc]
  exact ⟨ok.1, ok.2.1⟩
theorem e_read : ∀ (n k : Nat) (X Y : MT), RT0 A B X Y → OKs X 4 → tn (X.2.1 6 0) - tn (X.2.1 6 3) ≤ n + 1 →
    ((rdN (n + 1) k X).1 = -1 ∧ ∃ k' Y', rd9 (n + 2) k Y = (false, k', Y') ∧ RT1 A B (rdN (n + 1) k X).2 Y') ∨
    ∃ k' Y', k' ≤ k + n + 1 ∧ (rdN (n + 1) k X).1 = nI k' ∧ rd9 (n + 2) k Y = (true, k', Y') ∧ RT1 A B (rdN (n + 1) k X).2 Y' := by
  intro n
  induction n with
  | zero =>
    intro k X Y h ok hn
    obtain ⟨s1, s2⟩ := e_stmt h ok
    have tr := tkR_of h
    have wp := wp9_1 (wp9_of h ok) nx_1
    have tm := (st9 (tkM_rf (nx_tk tr).1) wp).1
    have tw : (sp_X9_statement (sp_X9_next Y)).1 = true → tn (Y.2.1 30 2) < tn ((sp_X9_next Y).2.1 30 2) := fun z => (nx_to tr).2 (st9_w z)
    have sz0 : (sp_X9_next Y).2.1 30 0 = Y.2.1 30 0 := nx_2 (by omega)
    have e1 : rdN (0 + 1) k X = if (sp_X6_readStatement X).1 = true then (if (sp_X6_advance (sp_X6_readStatement X).2).2.1 6 1 = 3 ∧ ¬ 0 = 0 then rdN 0 (k + 1) (sp_X6_advance (sp_X6_readStatement X).2) else (if (sp_X6_advance (sp_X6_readStatement X).2).2.1 6 1 = 0 then nI (k + 1) else -1, sp_X6_advance (sp_X6_readStatement X).2)) else (-1, (sp_X6_readStatement X).2) := rfl
    have e2 : rd9 (0 + 2) k Y = if (sp_X9_statement (sp_X9_next Y)).1 = true then if (sp_X9_next (sp_X9_statement (sp_X9_next Y)).2).2.1 30 3 = 101 then (true, k + 1, sp_X9_next (sp_X9_statement (sp_X9_next Y)).2) else if (sp_X9_next (sp_X9_statement (sp_X9_next Y)).2).2.1 30 3 = 59 then rd9 1 (k + 1) (sp_X9_next (sp_X9_statement (sp_X9_next Y)).2) else (false, k + 1, sp_X9_next (sp_X9_statement (sp_X9_next Y)).2) else (false, k, (sp_X9_statement (sp_X9_next Y)).2) := rfl
    rw [e1, e2]
    have hsz := h.2.1
    have hen := h.2.2.2.1
    generalize sp_X6_readStatement X = S at s1 s2 ⊢
    generalize sp_X9_statement (sp_X9_next Y) = T at s1 s2 tm tw ⊢
    by_cases c : T.1 = true
    · rw [if_pos (s1.trans c), if_pos c]
      obtain ⟨r1, t⟩ := adv_next s2.1
      have p := tw c
      have p2 := tm.2.1
      have p3 : tn (S.2.2.1 6 3) = tn (T.2.2.1 30 2) := by rw [s2.1.2.2.2.1]
      have p4 : tn (S.2.2.1 6 0) = tn (X.2.1 6 0) := by rw [s2.1.2.1, tm.2.2, sz0, hsz]
      have p5 : tn (X.2.1 6 3) = tn (Y.2.1 30 2) := by rw [hen]
      have n3 : ¬ (sp_X6_advance S.2).2.1 6 1 = 3 := fun z => by
        have := adv_3 s2.1.1 z
        omega
      rw [if_neg (fun z => n3 z.1)]
      obtain ⟨t1, _, t3, _⟩ := t
      generalize sp_X6_advance S.2 = X1 at r1 t1 t3 n3 ⊢
      generalize sp_X9_next T.2 = Y1 at r1 t1 t3 ⊢
      by_cases d : X1.2.1 6 1 = 0
      · rw [if_pos d, if_pos (t1.mp d)]
        exact Or.inr ⟨k + 1, Y1, Nat.le_refl _, rfl, rfl, r1⟩
      · rw [if_neg d, if_neg (fun z => d (t1.mpr z)), if_neg (fun z => n3 (t3.mpr z))]
        exact Or.inl ⟨rfl, k + 1, Y1, rfl, r1⟩
    · rw [if_neg (fun z => c (s1.symm.trans z)), if_neg c]
      exact Or.inl ⟨rfl, k, T.2, rfl, s2⟩
  | succ n ih =>
    intro k X Y h ok hn
    obtain ⟨s1, s2⟩ := e_stmt h ok
    have so := stmt_ok h.1 ok
    have tr := tkR_of h
    have wp := wp9_1 (wp9_of h ok) nx_1
    have tm := (st9 (tkM_rf (nx_tk tr).1) wp).1
    have tw : (sp_X9_statement (sp_X9_next Y)).1 = true → tn (Y.2.1 30 2) < tn ((sp_X9_next Y).2.1 30 2) := fun z => (nx_to tr).2 (st9_w z)
    have sz0 : (sp_X9_next Y).2.1 30 0 = Y.2.1 30 0 := nx_2 (by omega)
    have e1 : rdN (n + 1 + 1) k X = if (sp_X6_readStatement X).1 = true then (if (sp_X6_advance (sp_X6_readStatement X).2).2.1 6 1 = 3 ∧ ¬ n + 1 = 0 then rdN (n + 1) (k + 1) (sp_X6_advance (sp_X6_readStatement X).2) else (if (sp_X6_advance (sp_X6_readStatement X).2).2.1 6 1 = 0 then nI (k + 1) else -1, sp_X6_advance (sp_X6_readStatement X).2)) else (-1, (sp_X6_readStatement X).2) := rfl
    have e2 : rd9 (n + 1 + 2) k Y = if (sp_X9_statement (sp_X9_next Y)).1 = true then if (sp_X9_next (sp_X9_statement (sp_X9_next Y)).2).2.1 30 3 = 101 then (true, k + 1, sp_X9_next (sp_X9_statement (sp_X9_next Y)).2) else if (sp_X9_next (sp_X9_statement (sp_X9_next Y)).2).2.1 30 3 = 59 then rd9 (n + 2) (k + 1) (sp_X9_next (sp_X9_statement (sp_X9_next Y)).2) else (false, k + 1, sp_X9_next (sp_X9_statement (sp_X9_next Y)).2) else (false, k, (sp_X9_statement (sp_X9_next Y)).2) := rfl
    rw [e1, e2]
    have hsz := h.2.1
    have hen := h.2.2.2.1
    generalize sp_X6_readStatement X = S at s1 s2 so ⊢
    generalize sp_X9_statement (sp_X9_next Y) = T at s1 s2 tm tw ⊢
    by_cases c : T.1 = true
    · rw [if_pos (s1.trans c), if_pos c]
      obtain ⟨r1, t⟩ := adv_next s2.1
      have so1 : OKs (sp_X6_advance S.2) 4 := so
      have p := tw c
      have p2 := tm.2.1
      have p3 : tn (S.2.2.1 6 3) = tn (T.2.2.1 30 2) := by rw [s2.1.2.2.2.1]
      have p4 : tn (S.2.2.1 6 0) = tn (X.2.1 6 0) := by rw [s2.1.2.1, tm.2.2, sz0, hsz]
      have p5 : tn (X.2.1 6 3) = tn (Y.2.1 30 2) := by rw [hen]
      have p6 := (nx_to (tkR_of s2.1)).1
      have p7 : tn ((sp_X6_advance S.2).2.1 6 3) = tn ((sp_X9_next T.2).2.1 30 2) := by rw [r1.1.2.2.2.1]
      have p8 : (sp_X6_advance S.2).2.1 6 0 = S.2.2.1 6 0 := rfl
      have hn1 : tn ((sp_X6_advance S.2).2.1 6 0) - tn ((sp_X6_advance S.2).2.1 6 3) ≤ n + 1 := by rw [p8, p4, p7]; omega
      obtain ⟨t1, _, t3, _⟩ := t
      generalize sp_X6_advance S.2 = X1 at r1 t1 t3 so1 hn1 ⊢
      generalize sp_X9_next T.2 = Y1 at r1 t1 t3 ⊢
      by_cases d3 : X1.2.1 6 1 = 3
      · have n0 : ¬ Y1.2.1 30 3 = 101 := by rw [t3.mp d3]; decide
        rw [if_pos ⟨d3, Nat.succ_ne_zero n⟩, if_neg n0, if_pos (t3.mp d3)]
        rcases ih (k + 1) X1 Y1 r1.1 so1 hn1 with ⟨g1, k', Y', g2, g3⟩ | ⟨k', Y', g0, g1, g2, g3⟩
        · exact Or.inl ⟨g1, k', Y', g2, g3⟩
        · exact Or.inr ⟨k', Y', by omega, g1, g2, g3⟩
      · rw [if_neg (fun z => d3 z.1)]
        by_cases d : X1.2.1 6 1 = 0
        · rw [if_pos d, if_pos (t1.mp d)]
          exact Or.inr ⟨k + 1, Y1, by omega, rfl, rfl, r1⟩
        · rw [if_neg d, if_neg (fun z => d (t1.mpr z)), if_neg (fun z => d3 (t3.mpr z))]
          exact Or.inl ⟨rfl, k + 1, Y1, rfl, r1⟩
    · rw [if_neg (fun z => c (s1.symm.trans z)), if_neg c]
      exact Or.inl ⟨rfl, k, T.2, rfl, s2⟩
theorem sim_street (hx : OKX A) (hr : R2 A B) : SR (sp_X8_street A) (sp_X9_street B) := by
  obtain ⟨x0, x1, x2, x3, x4, x5, x6⟩ := id hx
  obtain ⟨r1, r2, r3, r4, r5⟩ := id hr
  have neC : ∀ t, t ≠ 4 → (cpM A 4 0).1 t = A.1 t := fun t ht => cp_ne ht
  have okC : OKs (cpM A 4 0) 4 := OKs_copy2 (by decide) x0 x4
  have agC : AG ((cpM A 4 0).1 4) (A.1 0) := AG_cp
  have eC : (cpM A 4 0).2 = A.2 := rfl
  have k1 : (sp_X9_keepB B).1 = B.1 := keepB_1
  have kJ : (sp_X9_keepB B).2.2 = B.2.2 := keepB_J
  have kne : ∀ c, c ≠ 36 → (sp_X9_keepB B).2.1 c = B.2.1 c := fun c hc => keepB_ne hc
  have kat : ∀ f i, ((f < 6 ∧ f ≠ 3 ∧ i = 0) ∨ (f = 3 ∧ i < 3) ∨ (6 ≤ f ∧ f < 14 ∧ i < 8)) → (sp_X9_keepB B).2.1 36 (oix f i) = B.1 5 f i := fun f i hf => keepB_at hf
  have hl := bd_lt x6
  have hw : bd (B.1 5 0 0) 9 := by rw [← r1.wc]; exact x0.1
  have hp : bd (B.1 5 1 0) 9 := by rw [← r1.pc]; exact x0.2.1
  unfold sp_X8_street sp_X9_street sp_X6_read
  generalize cpM A 4 0 = C at neC okC agC eC ⊢
  generalize sp_X9_keepB B = D at k1 kJ kne kat ⊢
  have e60 : (u2 C 6 3 0).2.1 6 0 = A.2.1 6 0 := (u2_ie (by decide)).trans (by rw [eC])
  have start : RT0 A D (u2 C 6 3 0) (u2 D 30 2 0) := by
    refine ⟨⟨by rw [e60]; exact x6, by rw [u2_eq]; exact bd_lit (by decide), by rw [u2_eq]; exact Nat.zero_le _⟩, ?_, fun i hi => ?_, ?_, ?_, ?_, ⟨neC, fun c h6 h8 => by rw [u2_ne h6, eC], by show C.2.2 = _; rw [eC]⟩, ⟨fun c hc => u2_ne hc, fun j hj => u2_ie (by omega), rfl⟩⟩
    · rw [e60, u2_ie (by decide), kne 30 (by decide)]; exact r3.1
    · rw [e60] at hi
      rw [u2_ne (by decide), u2_ne (by decide), eC, kne 31 (by decide)]; exact r3.2 i hi
    · rw [u2_eq, u2_eq]
    · show AG (C.1 4) (D.1 5)
      rw [k1]; exact agC.trans r1
    · show _ ≤ tn (C.1 4 1 0)
      rw [agC.pc]; exact Nat.le_refl _
  have ok0 : OKs (u2 C 6 3 0) 4 := OKs_congr okC rfl
  have okR := rdN_ok 250 0 (u2 C 6 3 0) start.1 ok0
  have key := e_read 249 0 (u2 C 6 3 0) (u2 D 30 2 0) start ok0 (by rw [e60]; omega)
  have e250 : rdN (249 + 1) 0 (u2 C 6 3 0) = rdN 250 0 (u2 C 6 3 0) := rfl
  have e251 : rd9 (249 + 2) 0 (u2 D 30 2 0) = rd9 251 0 (u2 D 30 2 0) := rfl
  rw [e250, e251] at key
  generalize rdN 250 0 (u2 C 6 3 0) = p at key okR ⊢
  generalize rd9 251 0 (u2 D 30 2 0) = q at key ⊢
  rcases key with ⟨p1, k', Z, rfl, rt⟩ | ⟨k', Z, hk', p1, rfl, rt⟩
  · rw [if_pos p1, st9_f]
    obtain ⟨⟨_, _, _, _, ag, pc, ⟨f1, f2, f3⟩, ⟨y1, y2, y3⟩⟩, _, st⟩ := rt
    generalize p.2 = x at okR ag pc f1 f2 f3 st ⊢
    have agB : AG (A.1 0) ((sp_X9_againB Z).1 5) := by
      refine r1.trans (AG_oix hw hp (fun f i hf => ?_))
      rw [againB_at hf, y1 36 (by decide), kat f i hf]
    have b2 : (sp_X9_againB Z).2 = Z.2 := againB_2
    generalize sp_X9_againB Z = W at agB b2 ⊢
    have wc : ∀ c, c ≠ 30 → c ≠ 36 → W.2.1 c = B.2.1 c := fun c h0 h6 => by rw [b2, y1 c h0, kne c h6]
    have w305 : W.2.1 30 5 = B.2.1 30 5 := by rw [b2, y2 5 (by omega), kne 30 (by decide)]
    have wJ : W.2.2 = B.2.2 := by rw [b2, y3, kJ]
    have hx' : OKX (u2 x 6 0 0) := by
      refine ⟨OKs_congr x0 (f1 0 (by decide)), OKs_congr x1 (f1 1 (by decide)), OKa_eq x2 (f1 2 (by decide)), OKa_eq x3 (f1 3 (by decide)), OKa_of (OKs_congr okR rfl), ?_, by rw [u2_eq]; exact bd_lit (by decide)⟩
      rw [u2_ne (by decide), u2_ne (by decide), u2_ne (by decide), u2_ne (by decide), f2 12 (by decide) (by decide), f2 11 (by decide) (by decide), f2 9 (by decide) (by decide), f2 10 (by decide) (by decide)]
      intro t ht
      have e0 : (u2 x 6 0 0).1 0 = A.1 0 := f1 0 (by decide)
      rw [e0]
      exact x5 t ht
    have hr' : R2 (u2 x 6 0 0) (u2 W 30 0 0) := by
      refine ⟨?_, fun t ht => ?_, ?_, fun j hj => ?_, ?_⟩
      · show AG (x.1 0) (W.1 5)
        rw [f1 0 (by decide)]; exact agB
      · rw [u2_ne (by decide), u2_ne (by decide), u2_ne (by decide), u2_ne (by decide), u2_ne (by decide), u2_ne (by decide), f2 12 (by decide) (by decide), f2 11 (by decide) (by decide), f2 9 (by decide) (by decide), f2 10 (by decide) (by decide), wc 33 (by decide) (by decide), wc 32 (by decide) (by decide)]
        show _ ∧ _ ∧ (_ → _ ∧ _ ∧ ∀ i, i < _ → W.2.2 8 _ = x.2.2 t i)
        rw [wJ, f3]
        exact r2 t ht
      · unfold TP
        rw [u2_eq, u2_eq]
        exact ⟨rfl, fun i hi => absurd hi (Nat.not_lt_zero i)⟩
      · rw [u2_ne (by decide), u2_ne (by decide), f2 1 (by decide) (by decide), wc 34 (by decide) (by decide)]; exact r4 j hj
      · unfold KP oldV
        rw [u2_ne (by decide), u2_ie (by decide), u2_ne (by decide), f2 0 (by decide) (by decide), w305, wc 35 (by decide) (by decide)]
        show _ ∧ (_ → AG (x.1 1) _)
        rw [f1 1 (by decide)]
        exact r5
    have g := sr_no (c := -2) hx' hr' (by decide)
    have v1 : sp_X6_fault (sp_X8_refuse (u2 x 6 0 0) (-2)).2 = x.2.1 6 2 := by
      show (u2 (u2 x 6 0 0) 1 _ _).2.1 6 2 = _
      rw [u2_ne (by decide), u2_ie (by decide)]
    have v2 : (sp_X9_no (u2 W 30 0 0) (-2)).2.2.1 30 1 = W.2.1 30 1 := by
      show (u2 (u2 W 30 0 0) 34 _ _).2.1 30 1 = _
      rw [u2_ne (by decide), u2_ie (by decide)]
    have v3 : W.2.1 30 1 = x.2.1 6 2 := by rw [b2, st]
    refine ⟨?_, g.2.1, g.2.2⟩
    show (-20 : Int32) - _ = -20 - _
    rw [v1, v2, v3]
  · rw [if_neg (by rw [p1]; exact nI_nm1 (by omega)), st9_t, p1]
    obtain ⟨⟨_, _, _, _, ag, pc, ⟨f1, f2, f3⟩, ⟨y1, y2, y3⟩⟩, _, st⟩ := rt
    generalize p.2 = x at okR ag pc f1 f2 f3 st ⊢
    have zc : ∀ c, c ≠ 30 → c ≠ 36 → Z.2.1 c = B.2.1 c := fun c h0 h6 => by rw [y1 c h0, kne c h6]
    have z305 : Z.2.1 30 5 = B.2.1 30 5 := by rw [y2 5 (by omega), kne 30 (by decide)]
    have zJ : Z.2.2 = B.2.2 := by rw [y3, kJ]
    have o0 : OKs (u2 x 6 0 0) 0 := OKs_congr x0 (f1 0 (by decide))
    have okG : OKs (cpM (u2 x 6 0 0) 0 4) 0 := OKs_copy2 (by decide) (OKs_congr okR rfl) (OKa_of o0)
    have agG : AG ((cpM (u2 x 6 0 0) 0 4).1 0) (x.1 4) := AG_cp
    have neG : ∀ t, t ≠ 0 → (cpM (u2 x 6 0 0) 0 4).1 t = x.1 t := fun t ht => cp_ne ht
    have cG : ∀ c, c ≠ 6 → (cpM (u2 x 6 0 0) 0 4).2.1 c = x.2.1 c := fun c hc => u2_ne hc
    have cG6 : (cpM (u2 x 6 0 0) 0 4).2.1 6 0 = 0 := u2_eq
    have jG : (cpM (u2 x 6 0 0) 0 4).2.2 = x.2.2 := rfl
    generalize cpM (u2 x 6 0 0) 0 4 = G at okG agG neG cG cG6 jG ⊢
    refine ⟨rfl, ⟨okG, OKs_congr x1 ((neG 1 (by decide)).trans (f1 1 (by decide))), OKa_eq x2 ((neG 2 (by decide)).trans (f1 2 (by decide))), OKa_eq x3 ((neG 3 (by decide)).trans (f1 3 (by decide))), OKa_of (OKs_congr okR (neG 4 (by decide))), ?_, ?_⟩, ?_, fun t ht => ?_, ?_, fun j hj => ?_, ?_⟩
    · show ∀ t, t < 8 → bd (G.2.1 12 t) 41 ∧ bd (G.2.1 11 t) 5 ∧ (G.2.1 9 t = 0 ∨ G.2.1 9 t = 1) ∧ (G.2.1 10 t = -1 ∨ (G.2.1 9 t = 0 ∧ bd (G.2.1 10 t) 8 ∧ tn (G.2.1 10 t) < tn (G.1 0 1 0)))
      rw [cG 12 (by decide), cG 11 (by decide), cG 9 (by decide), cG 10 (by decide), f2 12 (by decide) (by decide), f2 11 (by decide) (by decide), f2 9 (by decide) (by decide), f2 10 (by decide) (by decide), agG.pc]
      intro t ht
      obtain ⟨g1, g2, g3, g4⟩ := x5 t ht
      exact ⟨g1, g2, g3, g4.imp id (fun z => ⟨z.1, z.2.1, Nat.lt_of_lt_of_le z.2.2 pc⟩)⟩
    · show bd (G.2.1 6 0) 251
      rw [cG6]; exact bd_lit (by decide)
    · show AG (G.1 0) (Z.1 5)
      exact agG.trans ag
    · show SH1 G (u2 Z 30 0 0) t
      unfold SH1
      rw [u2_ne (by decide), u2_ne (by decide), cG 12 (by decide), cG 11 (by decide), cG 9 (by decide), cG 10 (by decide), f2 12 (by decide) (by decide), f2 11 (by decide) (by decide), f2 9 (by decide) (by decide), f2 10 (by decide) (by decide), zc 33 (by decide) (by decide), zc 32 (by decide) (by decide), jG, f3]
      show _ ∧ _ ∧ (_ → _ ∧ _ ∧ ∀ i, i < _ → Z.2.2 8 _ = _)
      rw [zJ]
      exact r2 t ht
    · unfold TP
      rw [cG6, u2_eq]
      exact ⟨rfl, fun i hi => absurd hi (Nat.not_lt_zero i)⟩
    · rw [u2_ne (by decide), cG 1 (by decide), f2 1 (by decide) (by decide), zc 34 (by decide) (by decide)]; exact r4 j hj
    · unfold KP oldV
      rw [u2_ie (by decide), u2_ne (by decide), cG 0 (by decide), f2 0 (by decide) (by decide), z305, zc 35 (by decide) (by decide), neG 1 (by decide), f1 1 (by decide)]
      exact r5
end Street
