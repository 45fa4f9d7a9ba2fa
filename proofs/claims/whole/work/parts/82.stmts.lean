/-! ===== one statement of the tape, in both ===== -/
section Stmts
variable {A B X Y : MT}
theorem wd_tab : ∀ i, i < 7 → ∀ j, j < 7 → nI (kTx i).length = nI (kTx j).length → (kTx i).getD 0 0 = (kTx j).getD 0 0 → i = j := by decide +kernel
theorem wd_len : ∀ i, i < 7 → 0 < (kTx i).length ∧ (kTx i).length < 7 := by decide +kernel
theorem spells_iff {i : Nat} : sp_X6_spells X i = true ↔ (nI (kTx i).length = (X.2.1 6 3) - (X.2.1 6 2) ∧ ∀ j, j < (kTx i).length → X.2.1 7 (tn ((X.2.1 6 2) + nI j)) = (kTx i).getD j 0) := by
  unfold sp_X6_spells; exact decide_eq_true_iff
theorem spells_1 {i j : Nat} (hi : i < 7) (hj : j < 7) (h : sp_X6_spells X i = true) (g : sp_X6_spells X j = true) : i = j := by
  obtain ⟨a1, a2⟩ := spells_iff.mp h
  obtain ⟨b1, b2⟩ := spells_iff.mp g
  exact wd_tab i hi j hj (a1.trans b1.symm) ((a2 0 (wd_len i hi).1).symm.trans (b2 0 (wd_len j hj).1))
theorem verb_of {i : Nat} (hi : i < 7) (h : sp_X6_spells X i = true) : sp_X6_verb X = nI i := by
  have n : ∀ j, j < 7 → j ≠ i → ¬ sp_X6_spells X j = true := fun j hj hne z => hne (spells_1 hj hi z h)
  unfold sp_X6_verb
  rcases (show i = 0 ∨ i = 1 ∨ i = 2 ∨ i = 3 ∨ i = 4 ∨ i = 5 ∨ i = 6 by omega) with rfl | rfl | rfl | rfl | rfl | rfl | rfl
  · rw [if_pos h]; rfl
  · rw [if_neg (n 0 (by omega) (by omega)), if_pos h]; rfl
  · rw [if_neg (n 0 (by omega) (by omega)), if_neg (n 1 (by omega) (by omega)), if_pos h]; rfl
  · rw [if_neg (n 0 (by omega) (by omega)), if_neg (n 1 (by omega) (by omega)), if_neg (n 2 (by omega) (by omega)), if_pos h]; rfl
  · rw [if_neg (n 0 (by omega) (by omega)), if_neg (n 1 (by omega) (by omega)), if_neg (n 2 (by omega) (by omega)), if_neg (n 3 (by omega) (by omega)), if_pos h]; rfl
  · rw [if_neg (n 0 (by omega) (by omega)), if_neg (n 1 (by omega) (by omega)), if_neg (n 2 (by omega) (by omega)), if_neg (n 3 (by omega) (by omega)), if_neg (n 4 (by omega) (by omega)), if_pos h]; rfl
  · rw [if_neg (n 0 (by omega) (by omega)), if_neg (n 1 (by omega) (by omega)), if_neg (n 2 (by omega) (by omega)), if_neg (n 3 (by omega) (by omega)), if_neg (n 4 (by omega) (by omega)), if_neg (n 5 (by omega) (by omega)), if_pos h]; rfl
theorem verb_no (h : ∀ i, i < 7 → ¬ sp_X6_spells X i = true) : sp_X6_verb X = -1 := by
  unfold sp_X6_verb
  rw [if_neg (h 0 (by omega)), if_neg (h 1 (by omega)), if_neg (h 2 (by omega)), if_neg (h 3 (by omega)), if_neg (h 4 (by omega)), if_neg (h 5 (by omega)), if_neg (h 6 (by omega))]
/-- a word is the same word in both -/
theorem e_isWord (h : RT1 A B X Y) (ht : TKN X Y) {i : Nat} (hi : i < 7) : sp_X9_isWord Y i = true ↔ (X.2.1 6 1 = 1 ∧ sp_X6_spells X i = true) := by
  obtain ⟨⟨tk, sz, tp, en, _⟩, te, st⟩ := h
  have wl := wd_len i hi
  have hl := bd_lt tk.1
  have h2 := bd_lt te.1
  have h3 := bd_lt te.2.1
  have sub : X.2.1 6 3 - X.2.1 6 2 = nI (tn (X.2.1 6 3) - tn (X.2.1 6 2)) := by
    have z : X.2.1 6 3 - X.2.1 6 2 = nI (tn (X.2.1 6 3)) - nI (tn (X.2.1 6 2)) := by rw [← bd_eq te.1, ← bd_eq te.2.1]
    rw [z, pk_sub te.2.2]
  have idx : ∀ j, (kTx i).length = tn (X.2.1 6 3) - tn (X.2.1 6 2) → j < (kTx i).length → X.2.1 7 (tn (X.2.1 6 2 + nI j)) = Y.2.1 31 (tn (X.2.1 6 2 + nI j)) := fun j e hj => by
    have e2 : X.2.1 6 2 + nI j = nI (tn (X.2.1 6 2) + j) := off_eq te.1 (by omega)
    rw [e2, tn_nI (by omega)]
    exact tp _ (by have := tk.2.2; omega)
  have len : nI (kTx i).length = nI (tn (X.2.1 6 3) - tn (X.2.1 6 2)) → (kTx i).length = tn (X.2.1 6 3) - tn (X.2.1 6 2) := fun q => by
    have := congrArg tn q
    rw [tn_nI (by omega), tn_nI (by omega)] at this
    exact this
  rw [spells_iff, sub, ht.2.1]
  unfold sp_X9_isWord
  rw [decide_eq_true_iff, ← en, ← st, sub]
  constructor
  · rintro ⟨a, b, c⟩
    have e := len b.symm
    exact ⟨a, b.symm, fun j hj => (idx j e hj).trans (c j hj)⟩
  · rintro ⟨a, b, c⟩
    have e := len b
    exact ⟨a, b.symm, fun j hj => (idx j e hj).symm.trans (c j hj)⟩
theorem rt_num {k : Nat} (h : RT1 A B X Y) : RT1 A B (numM X k) Y := by
  obtain ⟨⟨tk, sz, tp, en, ag, pc, ⟨x1, x2, x3⟩, fy⟩, te, st⟩ := h
  exact ⟨⟨tk, sz, tp, en, ag, pc, ⟨x1, fun c h6 h8 => (u2_ne h8).trans (x2 c h6 h8), x3⟩, fy⟩, te, st⟩
/-- one number -/
theorem e_num {v : Int32} {n k : Nat} {lo hi : Int32} (h : RT0 A B X Y) (hlo : sp_X6_least (numM (sp_X6_advance X) k) v (nI k) = lo) (hhi : sp_X6_most (numM (sp_X6_advance X) k) v (nI k) = hi) (h0 : 0 ≤ lo) :
    (rsN v (n + 1) k X = rsN v n (k + 1) (numM (sp_X6_advance X) k) ∧ (sp_X9_number Y lo hi).1 = (numM (sp_X6_advance X) k).2.1 8 k ∧ ¬ (sp_X9_number Y lo hi).1 = -1 ∧ RT1 A B (numM (sp_X6_advance X) k) (sp_X9_next Y)) ∨
    ((rsN v (n + 1) k X).1 = false ∧ (sp_X9_number Y lo hi).1 = -1 ∧ RT1 A B (rsN v (n + 1) k X).2 (sp_X9_next Y)) := by
  obtain ⟨r, t⟩ := adv_next h
  have e : rsN v (n + 1) k X = if (sp_X6_advance X).2.1 6 1 = 2 ∧ (sp_X6_advance X).2.1 6 3 - (sp_X6_advance X).2.1 6 2 ≤ 3 then
      if numOk v k (numM (sp_X6_advance X) k) = true then rsN v n (k + 1) (numM (sp_X6_advance X) k) else (false, numM (sp_X6_advance X) k)
    else (false, sp_X6_advance X) := rfl
  have eo : numOk v k (numM (sp_X6_advance X) k) = sp_X9_within ((numM (sp_X6_advance X) k).2.1 8 k) lo hi := by unfold numOk; rw [hlo, hhi]; rfl
  have e8 : (numM (sp_X6_advance X) k).2.1 8 k = sp_X6_number (sp_X6_advance X) := u2_eq
  rw [e, eo]
  have rn := rt_num (k := k) r
  unfold sp_X9_number
  rw [e8]
  rw [e8] at eo
  generalize numM (sp_X6_advance X) k = N at rn ⊢
  obtain ⟨_, _, _, t4, t5⟩ := t
  generalize sp_X9_next Y = Z at r rn t4 t5 ⊢
  by_cases c : (sp_X6_advance X).2.1 6 1 = 2 ∧ (sp_X6_advance X).2.1 6 3 - (sp_X6_advance X).2.1 6 2 ≤ 3
  · have c' := t4.mp c
    rw [if_pos c, if_pos c', t5 c']
    by_cases d : sp_X9_within (Z.2.1 30 4) lo hi = true
    · rw [if_pos d, if_pos d]
      refine Or.inl ⟨rfl, rfl, fun z => ?_, rn⟩
      have g : Z.2.1 30 4 = -1 := z
      have g1 := (within_iff.mp (w98 ▸ d)).1
      rw [g] at g1
      exact absurd (Int32.le_trans h0 g1) (by decide)
    · rw [if_neg d, if_neg d]
      exact Or.inr ⟨rfl, rfl, rn⟩
  · rw [if_neg c, if_neg (fun z => c (t4.mpr z))]
    exact Or.inr ⟨rfl, rfl, r⟩
/-- both have read a statement alike -/
def SS (A B : MT) (p q : Bool × MT) : Prop := p.1 = q.1 ∧ RT1 A B p.2 q.2
theorem adv_1 : (sp_X6_advance X).1 = X.1 := rfl
/-- the street is changed alike -/
theorem rt_st {X' Y' : MT} (h : RT1 A B X Y) (hJ : X'.2 = X.2) (hn : ∀ t, t ≠ 4 → X'.1 t = X.1 t) (hY : Y'.2 = Y.2) (ag : AG (X'.1 4) (Y'.1 5)) (pc : tn (X.1 4 1 0) ≤ tn (X'.1 4 1 0)) : RT1 A B X' Y' := by
  obtain ⟨⟨tk, sz, tp, en, _, pc0, ⟨x1, x2, x3⟩, fy⟩, te, st⟩ := h
  refine ⟨⟨?_, ?_, ?_, ?_, ag, Nat.le_trans pc0 pc, ⟨fun t ht => (hn t ht).trans (x1 t ht), ?_, ?_⟩, ?_⟩, ?_, ?_⟩
  · unfold tkI; rw [hJ]; exact tk
  · rw [hJ, hY]; exact sz
  · rw [hJ, hY]; exact tp
  · rw [hJ, hY]; exact en
  · rw [hJ]; exact x2
  · rw [hJ]; exact x3
  · rw [hY]; exact fy
  · unfold teB; rw [hJ]; exact te
  · rw [hJ, hY]; exact st
theorem rs_0 {v : Int32} {k : Nat} {M : MT} : rsN v 0 k M = (true, M) := rfl
/-- a statement with one number that changes one place -/
theorem ss_one {v : Int32} {lo hi : Int32} {f i : Nat} (h : RT0 A B X Y) (hlo : sp_X6_least (numM (sp_X6_advance X) 0) v (nI 0) = lo) (hhi : sp_X6_most (numM (sp_X6_advance X) 0) v (nI 0) = hi) (h0 : 0 ≤ lo) (hf0 : f ≠ 0) (hf1 : f ≠ 1)
    (ha : ∀ R, sp_X6_apply R v = u1 R 4 f i (R.2.1 8 0)) :
    SS A B (if (rsN v 1 0 X).1 = true then (true, sp_X6_apply (rsN v 1 0 X).2 v) else (false, (rsN v 1 0 X).2))
      (if (sp_X9_number Y lo hi).1 = -1 then (false, (sp_X9_number Y lo hi).2) else (true, u1 (sp_X9_number Y lo hi).2 5 f i (sp_X9_number Y lo hi).1)) := by
  rw [nu_2]
  rcases e_num (v := v) (n := 0) (k := 0) h hlo hhi h0 with ⟨e1, e2, e3, e4⟩ | ⟨e1, e2, e3⟩
  · rw [rs_0] at e1
    rw [e1, if_pos rfl, if_neg e3, e2, ha]
    generalize numM (sp_X6_advance X) 0 = R at e4 ⊢
    generalize sp_X9_next Y = Z at e4 ⊢
    refine ⟨rfl, rt_st e4 rfl (fun t ht => u1_ne ht) rfl ?_ (by show _ ≤ tn ((u1 R 4 f i _).1 4 1 0); rw [u1_f (fun z => hf1 z.symm)]; exact Nat.le_refl _)⟩
    show AG ((u1 R 4 f i _).1 4) ((u1 Z 5 f i _).1 5)
    rw [u1_V, u1_V]
    exact AG_up e4.1.2.2.2.2.1 hf0 hf1
  · rw [if_neg (by rw [e1]; decide), if_pos e2]
    exact ⟨rfl, e3⟩
end Stmts
