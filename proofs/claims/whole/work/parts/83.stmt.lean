/-! ===== a statement whole ===== -/
section Stmt3
variable {A B X Y : MT}
theorem pr_eta {α β : Type} {p : α × β} : (p.1, p.2) = p := rfl
theorem ct_eq {M : MT} : sp_X9_cellTold M = sp_X9_number M 0 ((M.1 5 2 0) - 1) := rfl
theorem nm_1 {k : Nat} : (numM (sp_X6_advance X) k).1 = X.1 := rfl
theorem nm_8 {j k : Nat} (h : j ≠ k) : (numM (sp_X6_advance X) k).2.1 8 j = X.2.1 8 j := u2_ie h
theorem ss_two {v lo0 hi0 lo1 hi1 : Int32} (G : MT → Int32 → Int32 → MT) (h : RT0 A B X Y)
    (l0 : ∀ R : MT, R.1 = X.1 → sp_X6_least R v (nI 0) = lo0) (m0 : ∀ R : MT, R.1 = X.1 → sp_X6_most R v (nI 0) = hi0) (p0 : 0 ≤ lo0)
    (l1 : ∀ R : MT, R.1 = X.1 → sp_X6_least R v (nI 1) = lo1) (m1 : ∀ R : MT, R.1 = X.1 → sp_X6_most R v (nI 1) = hi1) (p1 : 0 ≤ lo1)
    (hG : ∀ R Z, RT1 A B R Z → R.1 = X.1 → RT1 A B (sp_X6_apply R v) (G Z (R.2.1 8 0) (R.2.1 8 1))) :
    SS A B (if (rsN v 2 0 X).1 = true then (true, sp_X6_apply (rsN v 2 0 X).2 v) else (false, (rsN v 2 0 X).2))
      (if (sp_X9_number Y lo0 hi0).1 = -1 then (false, (sp_X9_number Y lo0 hi0).2) else
        if (sp_X9_number (sp_X9_number Y lo0 hi0).2 lo1 hi1).1 = -1 then (false, (sp_X9_number (sp_X9_number Y lo0 hi0).2 lo1 hi1).2) else
          (true, G (sp_X9_number (sp_X9_number Y lo0 hi0).2 lo1 hi1).2 (sp_X9_number Y lo0 hi0).1 (sp_X9_number (sp_X9_number Y lo0 hi0).2 lo1 hi1).1)) := by
  rw [nu_2, nu_2]
  rcases e_num (v := v) (n := 1) (k := 0) h (l0 _ nm_1) (m0 _ nm_1) p0 with ⟨e1, e2, e3, e4⟩ | ⟨e1, e2, e3⟩
  · rw [e1, if_neg e3, e2]
    have q1 : (numM (sp_X6_advance X) 0).1 = X.1 := nm_1
    generalize numM (sp_X6_advance X) 0 = R0 at e4 q1 ⊢
    generalize sp_X9_next Y = Z0 at e4 ⊢
    rcases e_num (v := v) (n := 0) (k := 1) e4.1 (l1 _ (nm_1.trans q1)) (m1 _ (nm_1.trans q1)) p1 with ⟨f1, f2, f3, f4⟩ | ⟨f1, f2, f3⟩
    · rw [rs_0] at f1
      rw [f1, if_neg f3, f2]
      have q2 : (numM (sp_X6_advance R0) 1).1 = X.1 := nm_1.trans q1
      have q3 : (numM (sp_X6_advance R0) 1).2.1 8 0 = R0.2.1 8 0 := nm_8 (by decide)
      generalize numM (sp_X6_advance R0) 1 = R1 at f4 q2 q3 ⊢
      generalize sp_X9_next Z0 = Z1 at f4 ⊢
      have g := hG R1 Z1 f4 q2
      rw [q3] at g
      exact ⟨rfl, g⟩
    · rw [if_neg (by rw [f1]; decide), if_pos f2]
      exact ⟨rfl, f3⟩
  · rw [if_neg (by rw [e1]; decide), if_pos e2]
    exact ⟨rfl, e3⟩
theorem ss_three {v lo0 hi0 lo1 hi1 lo2 hi2 : Int32} (G : MT → Int32 → Int32 → Int32 → MT) (h : RT0 A B X Y)
    (l0 : ∀ R : MT, R.1 = X.1 → sp_X6_least R v (nI 0) = lo0) (m0 : ∀ R : MT, R.1 = X.1 → sp_X6_most R v (nI 0) = hi0) (p0 : 0 ≤ lo0)
    (l1 : ∀ R : MT, R.1 = X.1 → sp_X6_least R v (nI 1) = lo1) (m1 : ∀ R : MT, R.1 = X.1 → sp_X6_most R v (nI 1) = hi1) (p1 : 0 ≤ lo1)
    (l2 : ∀ R : MT, R.1 = X.1 → sp_X6_least R v (nI 2) = lo2) (m2 : ∀ R : MT, R.1 = X.1 → sp_X6_most R v (nI 2) = hi2) (p2 : 0 ≤ lo2)
    (hG : ∀ R Z, RT1 A B R Z → R.1 = X.1 → RT1 A B (sp_X6_apply R v) (G Z (R.2.1 8 0) (R.2.1 8 1) (R.2.1 8 2))) :
    SS A B (if (rsN v 3 0 X).1 = true then (true, sp_X6_apply (rsN v 3 0 X).2 v) else (false, (rsN v 3 0 X).2))
      (if (sp_X9_number Y lo0 hi0).1 = -1 then (false, (sp_X9_number Y lo0 hi0).2) else
        if (sp_X9_number (sp_X9_number Y lo0 hi0).2 lo1 hi1).1 = -1 then (false, (sp_X9_number (sp_X9_number Y lo0 hi0).2 lo1 hi1).2) else
          if (sp_X9_number (sp_X9_number (sp_X9_number Y lo0 hi0).2 lo1 hi1).2 lo2 hi2).1 = -1 then (false, (sp_X9_number (sp_X9_number (sp_X9_number Y lo0 hi0).2 lo1 hi1).2 lo2 hi2).2) else
            (true, G (sp_X9_number (sp_X9_number (sp_X9_number Y lo0 hi0).2 lo1 hi1).2 lo2 hi2).2 (sp_X9_number Y lo0 hi0).1 (sp_X9_number (sp_X9_number Y lo0 hi0).2 lo1 hi1).1 (sp_X9_number (sp_X9_number (sp_X9_number Y lo0 hi0).2 lo1 hi1).2 lo2 hi2).1)) := by
  rw [nu_2, nu_2, nu_2]
  rcases e_num (v := v) (n := 2) (k := 0) h (l0 _ nm_1) (m0 _ nm_1) p0 with ⟨e1, e2, e3, e4⟩ | ⟨e1, e2, e3⟩
  · rw [e1, if_neg e3, e2]
    have q1 : (numM (sp_X6_advance X) 0).1 = X.1 := nm_1
    generalize numM (sp_X6_advance X) 0 = R0 at e4 q1 ⊢
    generalize sp_X9_next Y = Z0 at e4 ⊢
    rcases e_num (v := v) (n := 1) (k := 1) e4.1 (l1 _ (nm_1.trans q1)) (m1 _ (nm_1.trans q1)) p1 with ⟨f1, f2, f3, f4⟩ | ⟨f1, f2, f3⟩
    · rw [f1, if_neg f3, f2]
      have q2 : (numM (sp_X6_advance R0) 1).1 = X.1 := nm_1.trans q1
      have q3 : (numM (sp_X6_advance R0) 1).2.1 8 0 = R0.2.1 8 0 := nm_8 (by decide)
      generalize numM (sp_X6_advance R0) 1 = R1 at f4 q2 q3 ⊢
      generalize sp_X9_next Z0 = Z1 at f4 ⊢
      rcases e_num (v := v) (n := 0) (k := 2) f4.1 (l2 _ (nm_1.trans q2)) (m2 _ (nm_1.trans q2)) p2 with ⟨g1, g2, g3, g4⟩ | ⟨g1, g2, g3⟩
      · rw [rs_0] at g1
        rw [g1, if_neg g3, g2]
        have q4 : (numM (sp_X6_advance R1) 2).1 = X.1 := nm_1.trans q2
        have q5 : (numM (sp_X6_advance R1) 2).2.1 8 0 = R0.2.1 8 0 := (nm_8 (by decide)).trans q3
        have q6 : (numM (sp_X6_advance R1) 2).2.1 8 1 = R1.2.1 8 1 := nm_8 (by decide)
        generalize numM (sp_X6_advance R1) 2 = R2' at g4 q4 q5 q6 ⊢
        generalize sp_X9_next Z1 = Z2 at g4 ⊢
        have g := hG R2' Z2 g4 q4
        rw [q5, q6] at g
        exact ⟨rfl, g⟩
      · rw [if_neg (by rw [g1]; decide), if_pos g2]
        exact ⟨rfl, g3⟩
    · rw [if_neg (by rw [f1]; decide), if_pos f2]
      exact ⟨rfl, f3⟩
  · rw [if_neg (by rw [e1]; decide), if_pos e2]
    exact ⟨rfl, e3⟩
/-- the class' statement, behind its word -/
def stC (w : Int32) (M : MT) : Bool × MT :=
  if w = -1 then (false, M) else if sp_X6_hasRoom M w = true then
    (if (rsN w (NBv w) 0 M).1 = true then (true, sp_X6_apply (rsN w (NBv w) 0 M).2 w) else (false, (rsN w (NBv w) 0 M).2)) else (false, M)
theorem e_stC (h : RT1 A B X Y) (ht : TKN X Y) (ok : OKs X 4) : SS A B (stC (if X.2.1 6 1 = 1 then sp_X6_verb X else -1) X) (sp_X9_statement Y) := by
  have hw : ∀ i, i < 7 → (sp_X9_isWord Y i = true ↔ (X.2.1 6 1 = 1 ∧ sp_X6_spells X i = true)) := fun i hi => e_isWord h ht hi
  have ag := h.1.2.2.2.2.1
  have cl : X.1 4 2 0 = Y.1 5 2 0 := ag.cl
  have wc : X.1 4 0 0 = Y.1 5 0 0 := ag.wc
  have pc : X.1 4 1 0 = Y.1 5 1 0 := ag.pc
  have cl0 : (0 : Int32) ≤ Y.1 5 2 0 := by rw [← cl]; exact Int32.not_lt.mp ok.2.2.1.1.1
  by_cases c : ∃ i, i < 7 ∧ X.2.1 6 1 = 1 ∧ sp_X6_spells X i = true
  · obtain ⟨i, hi, c1, c2⟩ := c
    have n : ∀ j, j < 7 → j ≠ i → ¬ sp_X9_isWord Y j = true := fun j hj hne z => hne (spells_1 hj hi ((hw j hj).mp z).2 c2)
    have y : sp_X9_isWord Y i = true := (hw i hi).mpr ⟨c1, c2⟩
    rw [if_pos c1, verb_of hi c2]
    unfold stC
    rw [if_neg (nI_nm1 (by omega))]
    unfold sp_X9_statement
    rcases (show i = 0 ∨ i = 1 ∨ i = 2 ∨ i = 3 ∨ i = 4 ∨ i = 5 ∨ i = 6 by omega) with rfl | rfl | rfl | rfl | rfl | rfl | rfl
    · rw [if_neg (n 1 (by omega) (by omega)), if_neg (n 2 (by omega) (by omega)), if_pos y, if_pos (show sp_X6_hasRoom X (nI 0) = true from rfl)]
      exact ss_one (v := nI 0) (lo := Y.1 5 2 0) (hi := 30) h.1 cl rfl cl0 (by decide) (by decide) (fun R => rfl)
    · rw [if_pos y]
      show SS A B _ (sp_X9_opens Y)
      unfold sp_X9_opens
      rw [ct_eq]
      have er : sp_X6_hasRoom X (nI 1) = if (8 : Int32) ≤ X.1 4 0 0 then false else true := rfl
      rw [er]
      by_cases c4 : (8 : Int32) ≤ X.1 4 0 0
      · rw [if_pos c4, if_neg (by decide), if_pos (show Y.1 5 0 0 = 8 by rw [← wc]; exact (room_iff ok.1).mp c4)]
        exact ⟨rfl, h⟩
      · have c5 : ¬ X.1 4 0 0 = 8 := fun z => c4 ((room_iff ok.1).mpr z)
        have h8 := ne8 ok.1 c5
        rw [if_neg c4, if_pos rfl, if_neg (show ¬ Y.1 5 0 0 = 8 by rw [← wc]; exact c5)]
        refine ss_three (v := nI 1) (fun Z a b c => (sp_X9_newWindow Z a b c).2) h.1 (fun R _ => rfl) (fun R e => ?_) (by decide) (fun R _ => rfl) (fun R _ => rfl) (by decide) (fun R _ => rfl) (fun R _ => rfl) (by decide) (fun R Z r e => ?_)
        · show R.1 4 2 0 - 1 = _
          rw [e, cl]
        · have e1 : (sp_X6_apply R (nI 1)).1 4 = awW (R.1 4) (R.2.1 8 0) (R.2.1 8 1) (R.2.1 8 2) := aw_V
          refine rt_st r apply_J (fun t ht => ?_) nw_2 ?_ ?_
          · show (sp_X5_addWindow R 4 (R.2.1 8 0) (R.2.1 8 1) (R.2.1 8 2)).2.1 t = _
            exact aw_ne ht
          · rw [e1]
            show AG _ ((sp_X9_newWindow Z _ _ _).2.1 5)
            rw [nw_V]
            exact AG_aw r.1.2.2.2.2.1 (by rw [e]; exact h8)
          · show _ ≤ tn ((sp_X5_addWindow R 4 (R.2.1 8 0) (R.2.1 8 1) (R.2.1 8 2)).2.1 4 1 0)
            rw [aw_1]; exact Nat.le_refl _
    · rw [if_neg (n 1 (by omega) (by omega)), if_pos y]
      show SS A B _ (sp_X9_arrives Y)
      unfold sp_X9_arrives
      rw [ct_eq, nu_1, nu_1]
      have er : sp_X6_hasRoom X (nI 2) = if (if (8 : Int32) ≤ X.1 4 1 0 then false else true) = true then true else false := rfl
      rw [er]
      by_cases c4 : (8 : Int32) ≤ X.1 4 1 0
      · rw [if_pos c4, if_neg (by decide), if_pos (show Y.1 5 1 0 = 8 by rw [← pc]; exact (room_iff ok.2.1).mp c4)]
        exact ⟨rfl, h⟩
      · have c5 : ¬ X.1 4 1 0 = 8 := fun z => c4 ((room_iff ok.2.1).mpr z)
        have h8 := ne8 ok.2.1 c5
        rw [if_neg c4, if_pos rfl, if_pos rfl, if_neg (show ¬ Y.1 5 1 0 = 8 by rw [← pc]; exact c5)]
        refine ss_three (v := nI 2) (fun Z a b c => (sp_X9_newOne Z a b c).2) h.1 (fun R _ => rfl) (fun R _ => rfl) (by decide) (fun R _ => rfl) (fun R _ => rfl) (by decide) (fun R _ => rfl) (fun R e => ?_) (by decide) (fun R Z r e => ?_)
        · show R.1 4 2 0 - 1 = _
          rw [e, cl]
        · have e1 : (sp_X6_apply R (nI 2)).1 4 = apW (R.1 4) (R.2.1 8 0) (R.2.1 8 1) (R.2.1 8 2) := ap_V
          have h8' : bd (R.1 4 1 0) 8 := by rw [e]; exact h8
          refine rt_st r apply_J (fun t ht => ?_) no_2 ?_ ?_
          · show (sp_X5_addPerson R 4 (R.2.1 8 0) (R.2.1 8 1) (R.2.1 8 2)).2.1 t = _
            exact ap_ne ht
          · rw [e1]
            show AG _ ((sp_X9_newOne Z _ _ _).2.1 5)
            rw [no_V]
            exact AG_ap r.1.2.2.2.2.1 h8'
          · show _ ≤ tn ((sp_X5_addPerson R 4 (R.2.1 8 0) (R.2.1 8 1) (R.2.1 8 2)).2.1 4 1 0)
            rw [ap_1, suc_tn h8' (by decide)]; exact Nat.le_succ _
    · rw [if_neg (n 1 (by omega) (by omega)), if_neg (n 2 (by omega) (by omega)), if_neg (n 0 (by omega) (by omega)), if_pos y, if_pos (show sp_X6_hasRoom X (nI 3) = true from rfl), ct_eq, nu_1]
      refine ss_two (v := nI 3) (fun Z a b => u1 Z 5 11 (tn a) b) h.1 (fun R _ => rfl) (fun R e => ?_) (by decide) (fun R _ => rfl) (fun R e => ?_) (by decide) (fun R Z r e => ?_)
      · show R.1 4 1 0 - 1 = _
        rw [e, pc]
      · show R.1 4 2 0 - 1 = _
        rw [e, cl]
      · refine rt_st r apply_J (fun t ht => ?_) rfl ?_ ?_
        · show (u1 R 4 11 (tn (R.2.1 8 0)) (R.2.1 8 1)).1 t = _
          exact u1_ne ht
        · show AG ((u1 R 4 11 (tn (R.2.1 8 0)) (R.2.1 8 1)).1 4) ((u1 Z 5 11 _ _).1 5)
          rw [u1_V, u1_V]
          exact AG_up r.1.2.2.2.2.1 (by decide) (by decide)
        · show _ ≤ tn ((u1 R 4 11 (tn (R.2.1 8 0)) (R.2.1 8 1)).1 4 1 0)
          rw [u1_f (by decide)]; exact Nat.le_refl _
    · rw [if_neg (n 1 (by omega) (by omega)), if_neg (n 2 (by omega) (by omega)), if_neg (n 0 (by omega) (by omega)), if_neg (n 3 (by omega) (by omega)), if_pos y, if_pos (show sp_X6_hasRoom X (nI 4) = true from rfl)]
      exact ss_one (v := nI 4) (lo := 0) (hi := 10) h.1 rfl rfl (by decide) (by decide) (by decide) (fun R => rfl)
    · rw [if_neg (n 1 (by omega) (by omega)), if_neg (n 2 (by omega) (by omega)), if_neg (n 0 (by omega) (by omega)), if_neg (n 3 (by omega) (by omega)), if_neg (n 4 (by omega) (by omega)), if_pos y, if_pos (show sp_X6_hasRoom X (nI 5) = true from rfl)]
      exact ss_one (v := nI 5) (lo := 0) (hi := 999) h.1 rfl rfl (by decide) (by decide) (by decide) (fun R => rfl)
    · rw [if_neg (n 1 (by omega) (by omega)), if_neg (n 2 (by omega) (by omega)), if_neg (n 0 (by omega) (by omega)), if_neg (n 3 (by omega) (by omega)), if_neg (n 4 (by omega) (by omega)), if_neg (n 5 (by omega) (by omega)), if_pos y, if_pos (show sp_X6_hasRoom X (nI 6) = true from rfl)]
      exact ss_one (v := nI 6) (lo := 0) (hi := 999) h.1 rfl rfl (by decide) (by decide) (by decide) (fun R => rfl)
  · have n : ∀ i, i < 7 → ¬ sp_X9_isWord Y i = true := fun i hi z => c ⟨i, hi, (hw i hi).mp z⟩
    have w : (if X.2.1 6 1 = 1 then sp_X6_verb X else -1) = -1 := by
      by_cases c1 : X.2.1 6 1 = 1
      · rw [if_pos c1]; exact verb_no (fun i hi z => c ⟨i, hi, c1, z⟩)
      · rw [if_neg c1]
    rw [w]
    unfold stC
    rw [if_pos rfl]
    unfold sp_X9_statement
    rw [if_neg (n 1 (by omega)), if_neg (n 2 (by omega)), if_neg (n 0 (by omega)), if_neg (n 3 (by omega)), if_neg (n 4 (by omega)), if_neg (n 5 (by omega)), if_neg (n 6 (by omega))]
    exact ⟨rfl, h⟩
theorem e_stmt (h : RT0 A B X Y) (ok : OKs X 4) : SS A B (sp_X6_readStatement X) (sp_X9_statement (sp_X9_next Y)) := by
  obtain ⟨r, t⟩ := adv_next h
  have e : sp_X6_readStatement X = stC (sp_X6_word X) (sp_X6_advance X) := sp_X6_readStatement.eq_1 X
  rw [e]
  exact e_stC r t ok
end Stmt3
