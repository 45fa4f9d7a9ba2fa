/-! ===== roses, shelves: what is told ===== -/
theorem fndN_congr {β : Type} {P Q : Nat → Bool} {F G : Nat → β} {b : β} : ∀ (n i : Nat), (∀ k, i ≤ k → k < i + n → P k = Q k ∧ F k = G k) → fndN P F b n i = fndN Q G b n i
  | 0, _, _ => rfl
  | n + 1, i, h => by
    unfold fndN
    rw [(h i (Nat.le_refl _) (by omega)).1, (h i (Nat.le_refl _) (by omega)).2, fndN_congr n (i + 1) (fun k h1 h2 => h k (by omega) (by omega))]
theorem cntN_lt {P : Nat → Bool} {n : Nat} : ∀ m, n ≤ m → cntN (fun i => decide (i < n) && P i) m = cntN P n
  | 0, h => by rw [Nat.le_zero.mp h]; rfl
  | m + 1, h => by
    rcases Nat.lt_or_ge m n with q | q
    · have e : n = m + 1 := by omega
      subst e
      exact cntN_congr (m + 1) (fun k hk => by simp [hk])
    · rw [cntN, cntN_lt m q]
      simp [show ¬ m < n by omega]
theorem bc_cnt : ∀ k, k < 256 → sp_J6_bitCount_0f7a4 (nI k) = nI (cntN (fun i => tb (nI k) i) 8) := by decide +kernel
theorem bc_of {x : Int32} (h : bd x 256) {P : Nat → Bool} {n : Nat} (hn : n ≤ 8) (hb : ∀ i, tb x i = (decide (i < n) && P i)) : sp_J6_bitCount_0f7a4 x = nI (cntN P n) := by
  have := bc_cnt _ (bd_lt h)
  rw [← bd_eq h] at this
  rw [this]
  congr 1
  rw [cntN_congr 8 (fun k _ => hb k), cntN_lt 8 hn]
section Roses
variable {A B : MT} {s : Nat}
theorem rb_bd (ok : OKs A s) {a : Int32} : bd (sp_X5_roseBearers A s a) 256 := by
  have hl := bd_lt ok.2.1
  unfold sp_X5_roseBearers
  exact itN_inv (fun x => bd x 256) _ (show bd 0 256 from bd_lit (by decide)) (fun k b hk hb => by unfold st_X5_roseBearers_4; (repeat' split) <;> first | exact hb | exact tk_bd hb (bd_nI (by omega) (by omega)))
theorem e_roses (h : AG (A.1 s) (B.1 5)) (ok : OKs A s) {a : Int32} : sp_J6_bitCount_0f7a4 (sp_X5_roseBearers A s 0) = itN (tn (B.1 5 1 0)) (st_X9_status_91 B a) 0 := by
  have hl := bd_lt ok.2.1
  rw [bc_of (P := fun k => decide (¬ A.1 s 12 k = -1)) (n := tn (A.1 s 1 0)) (rb_bd ok) (by omega) (fun i => by
    unfold sp_X5_roseBearers
    exact itN_bits (f := st_X5_roseBearers_4 A s 0) (P := fun k => decide (¬ A.1 s 12 k = -1)) (by omega) (fun k b hk => by
      unfold st_X5_roseBearers_4
      by_cases c : A.1 s 12 k = -1
      · simp [c]
      · simp [c]))]
  rw [← h.pc]
  refine (itN_cnt0 (fun k b hk => ?_)).symm
  unfold st_X9_status_91
  rw [← h.pe hk (f := 12) (by omega) (by omega)]
  by_cases c : A.1 s 12 k = -1
  · simp [c]
  · simp [c]
theorem due_or (ok : OKs A s) {p : Nat} (hp : p < tn (A.1 s 1 0)) : A.1 s 13 p = -1 ∨ bd (A.1 s 13 p) 1000 := (ok.2.2.2.2.2.2.2.2.2 p hp).2.2.2.1
/-- the first day of all -/
theorem e_first (h : AG (A.1 s) (B.1 5)) (ok : OKs A s) : ∀ k, k ≤ tn (A.1 s 1 0) →
    (itN k (st_X5_firstDue_4 A s) (-1) = -1 ∧ itN k (st_X9_firstDue_6 B) 1000 = 1000 ∧ ∀ j, j < k → A.1 s 13 j = -1) ∨
    (itN k (st_X5_firstDue_4 A s) (-1) = itN k (st_X9_firstDue_6 B) 1000 ∧ bd (itN k (st_X5_firstDue_4 A s) (-1)) 1000 ∧ ∃ j, j < k ∧ ¬ A.1 s 13 j = -1)
  | 0, _ => Or.inl ⟨rfl, rfl, fun j hj => absurd hj (Nat.not_lt_zero j)⟩
  | k + 1, hk => by
    have ih := e_first h ok k (by omega)
    have hkp : k < tn (A.1 s 1 0) := by omega
    have ed := h.pe hkp (f := 13) (by omega) (by omega)
    rw [itN_s, itN_s]
    generalize itN k (st_X5_firstDue_4 A s) (-1) = x at ih ⊢
    generalize itN k (st_X9_firstDue_6 B) 1000 = y at ih ⊢
    unfold st_X5_firstDue_4 st_X9_firstDue_6
    rw [← ed]
    by_cases c : A.1 s 13 k = -1
    · rw [if_pos c, if_pos c]
      rcases ih with ⟨e1, e2, e3⟩ | ⟨e1, e2, j, hj, e3⟩
      · exact Or.inl ⟨e1, e2, fun j hj => (Nat.lt_or_eq_of_le (Nat.le_of_lt_succ hj)).elim (e3 j) (fun z => by rw [z]; exact c)⟩
      · exact Or.inr ⟨e1, e2, j, by omega, e3⟩
    · rw [if_neg c, if_neg c]
      have hd := (due_or ok hkp).resolve_left c
      have hdl := bd_lt hd
      unfold imin
      rcases ih with ⟨rfl, rfl, _⟩ | ⟨rfl, e2, _⟩
      · rw [if_pos rfl]
        have : A.1 s 13 k < 1000 := by
          rw [bd_eq hd]
          exact nI_lt (b := 1000) hdl (by omega)
        rw [if_pos this]
        exact Or.inr ⟨rfl, hd, k, by omega, c⟩
      · rw [if_neg (dnm1 e2.1)]
        by_cases c2 : x ≤ A.1 s 13 k
        · rw [if_pos c2, if_neg (Int32.not_lt.mpr c2)]
          exact Or.inr ⟨rfl, e2, k, by omega, c⟩
        · rw [if_neg c2, if_pos (Int32.not_le.mp c2)]
          exact Or.inr ⟨rfl, hd, k, by omega, c⟩
theorem e_lastN (ok : OKs A s) : ∀ k, k ≤ tn (A.1 s 1 0) → (itN k (st_X5_lastDue_4 A s) (-1) = -1 ∧ ∀ j, j < k → A.1 s 13 j = -1) ∨ (bd (itN k (st_X5_lastDue_4 A s) (-1)) 1000 ∧ ∃ j, j < k ∧ ¬ A.1 s 13 j = -1)
  | 0, _ => Or.inl ⟨rfl, fun j hj => absurd hj (Nat.not_lt_zero j)⟩
  | k + 1, hk => by
    have ih := e_lastN ok k (by omega)
    have hkp : k < tn (A.1 s 1 0) := by omega
    rw [itN_s]
    generalize itN k (st_X5_lastDue_4 A s) (-1) = x at ih ⊢
    unfold st_X5_lastDue_4 imax
    by_cases c : A.1 s 13 k = -1
    · rw [c]
      rcases ih with ⟨rfl, e3⟩ | ⟨e2, j, hj, e3⟩
      · rw [if_neg (by decide)]
        exact Or.inl ⟨rfl, fun j hj => (Nat.lt_or_eq_of_le (Nat.le_of_lt_succ hj)).elim (e3 j) (fun z => by rw [z]; exact c)⟩
      · rw [if_neg (fun z => e2.1 (Int32.lt_trans z (by decide)))]
        exact Or.inr ⟨e2, j, by omega, e3⟩
    · have hd := (due_or ok hkp).resolve_left c
      rcases ih with ⟨rfl, e3⟩ | ⟨e2, j, hj, e3⟩
      · rw [if_pos (Int32.lt_of_lt_of_le (show (-1 : Int32) < 0 by decide) (Int32.not_lt.mp hd.1))]
        exact Or.inr ⟨hd, k, by omega, c⟩
      · split
        · exact Or.inr ⟨hd, k, by omega, c⟩
        · exact Or.inr ⟨e2, k, by omega, c⟩
theorem e_having (h : AG (A.1 s) (B.1 5)) (ok : OKs A s) {a : Int32} (ha : bd a 3) : itN (tn (B.1 5 1 0)) (st_X9_having_26 B a) 0 = (if a = 2 then sp_X5_dueOn A s (sp_X5_firstDue A s) else if a = 1 then sp_X5_roseBearers A s 1 else sp_X5_roseBearers A s 0) := by
  have hal := bd_lt ha
  have hpl := bd_lt ok.2.1
  have e := bd_eq ha
  rw [← h.pc]
  generalize tn a = k at e hal
  subst e
  rcases (show k = 0 ∨ k = 1 ∨ k = 2 by omega) with rfl | rfl | rfl
  · rw [if_neg (by decide), if_neg (by decide)]
    unfold sp_X5_roseBearers
    refine itN_congr rfl (fun k x hk => ?_)
    unfold st_X9_having_26 st_X5_roseBearers_4
    rw [← h.pe hk (f := 12) (by omega) (by omega)]
    rfl
  · rw [if_neg (by decide), if_pos (by decide)]
    unfold sp_X5_roseBearers
    refine itN_congr rfl (fun k x hk => ?_)
    unfold st_X9_having_26 st_X5_roseBearers_4
    rw [← h.pe hk (f := 12) (by omega) (by omega), ← h.pe hk (f := 13) (by omega) (by omega)]
    rfl
  · rw [if_pos (by decide)]
    unfold sp_X5_dueOn
    refine itN_congr rfl (fun k x hk => ?_)
    have ef := e_first h ok _ (Nat.le_refl _)
    unfold st_X5_dueOn_4
    have e9 : st_X9_having_26 B (nI 2) k x = if (B.1 5 13 k) = (sp_X9_firstDue B) then x ||| (1 <<< ((nI k) &&& 31)) else x := by
      unfold st_X9_having_26
      rw [if_neg (by decide), if_neg (by decide)]
    rw [e9, ← h.pe hk (f := 13) (by omega) (by omega)]
    have e1 : itN (tn (A.1 s 1 0)) (st_X5_firstDue_4 A s) (-1) = sp_X5_firstDue A s := rfl
    have e2 : itN (tn (A.1 s 1 0)) (st_X9_firstDue_6 B) 1000 = sp_X9_firstDue B := by unfold sp_X9_firstDue; rw [h.pc]
    rw [e1, e2] at ef
    rcases ef with ⟨f1, f2, f3⟩ | ⟨f1, f2, _⟩
    · rw [f3 k hk, f2, if_pos rfl, if_neg (by decide)]
    · rw [← f1]
      by_cases c : A.1 s 13 k = -1
      · rw [if_pos c, c, if_neg (fun z => dnm1 f2.1 z.symm)]
      · rw [if_neg c]
end Roses
section Shelves
variable {A B : MT}
theorem is_row (hx : OKX A) (hr : R2 A B) {a : Int32} (ha : bd a 8) : sp_X9_isRow B a = true ↔ ¬ A.2.1 9 (tn a) = 0 := by
  have ht := bd_lt ha
  obtain ⟨_, g2, g3⟩ := hr.2.1 _ ht
  obtain ⟨_, k2, _, k4⟩ := hx.2.2.2.2.2.1 _ ht
  unfold sp_X9_isRow
  constructor
  · intro z c
    have w := within_iff.mp (w98 ▸ z)
    rw [g2 c] at w
    split at w
    · exact absurd w.1 (by decide)
    · rename_i n
      obtain ⟨_, e2, _⟩ := k4.resolve_left n
      have hl := bd_lt e2
      have w2 := w.2
      rw [bd_eq e2, show (10 : Int32) + nI (tn (A.2.1 10 (tn a))) = nI (10 + tn (A.2.1 10 (tn a))) from nI_add 10 _] at w2
      have := (nI_leI (b := 4) (by omega) (by omega)).mp w2
      omega
  · intro c
    rw [(g3 c).1, w98]
    have hl := bd_lt k2
    refine within_iff.mpr ⟨Int32.not_lt.mp k2.1, ?_⟩
    rw [bd_eq k2]
    exact nI_le (b := 4) (by omega) (by omega)
theorem e_noTold (hx : OKX A) (hr : R2 A B) {a n : Int32} (ha : bd a 8) (hs : sp_X9_isShelf a = true) : sp_X8_rowRefusal A a n = sp_X9_noTold B a n := by
  have ht := bd_lt ha
  obtain ⟨_, g2, g3⟩ := hr.2.1 _ ht
  obtain ⟨_, k2, _, k4⟩ := hx.2.2.2.2.2.1 _ ht
  unfold sp_X8_rowRefusal sp_X9_noTold
  rw [e_shelf, if_pos hs]
  by_cases c : A.2.1 9 (tn a) = 0
  · rw [if_neg (fun z => (is_row hx hr ha).mp z c)]
    unfold sp_X9_noRow
    rw [g2 c, if_pos c]
    by_cases c2 : A.2.1 10 (tn a) = -1
    · rw [if_pos c2, if_pos c2, if_pos (by decide), if_neg (by decide)]
    · rw [if_neg c2, if_neg c2]
      obtain ⟨_, e2, _⟩ := k4.resolve_left c2
      have hl := bd_lt e2
      rw [bd_eq e2, show (10 : Int32) + nI (tn (A.2.1 10 (tn a))) = nI (10 + tn (A.2.1 10 (tn a))) from nI_add 10 _]
      rw [if_neg (show ¬ nI (10 + tn (A.2.1 10 (tn a))) < 10 from fun z => absurd ((nI_ltI (b := 10) (by omega) (by omega)).mp z) (by omega))]
  · rw [if_pos ((is_row hx hr ha).mpr c), (g3 c).2.1, if_neg c]
    rw [if_pos (k4.resolve_right (fun z => c z.1))]
theorem told_vals {a n : Int32} : sp_X8_rowRefusal A a n = 0 ∨ sp_X8_rowRefusal A a n = -2 ∨ sp_X8_rowRefusal A a n = -3 ∨ sp_X8_rowRefusal A a n = -4 := by
  unfold sp_X8_rowRefusal
  (repeat' split) <;> simp
theorem told_0 {a n : Int32} : (0 ≤ sp_X8_rowRefusal A a n) ↔ sp_X8_rowRefusal A a n = 0 := by
  rcases told_vals (A := A) (a := a) (n := n) with e | e | e | e <;> rw [e] <;> decide
theorem sr_told (hx : OKX A) (hr : R2 A B) {a n : Int32} (e : sp_X8_rowRefusal A a n = sp_X9_noTold B a n) : SR ((sp_X8_refuse A (sp_X8_rowRefusal A a n)).1, (sp_X8_refuse A (sp_X8_rowRefusal A a n)).2) ((sp_X9_no B (sp_X9_noTold B a n)).1, (sp_X9_no B (sp_X9_noTold B a n)).2) := by
  rw [← e]
  exact sr_ref hx hr rrB
/-- what both rows hold -/
theorem row_el (hx : OKX A) (hr : R2 A B) {a n : Int32} (hs : sp_X9_isShelf a = true) (h0 : sp_X8_rowRefusal A a n = 0) (hn : bd n 41) : ∀ i, i < tn n → B.2.2 8 (40 * tn a + i) = A.2.2 (tn a) i := by
  intro i hi
  have ha := isSh5 hs
  have ht := bd_lt ha
  obtain ⟨_, g2, g3⟩ := hr.2.1 _ ht
  obtain ⟨k1, _, _, _⟩ := hx.2.2.2.2.2.1 _ ht
  unfold sp_X8_rowRefusal at h0
  rw [e_shelf, if_pos hs] at h0
  split at h0
  · split at h0
    · exact absurd h0 (by decide)
    · rename_i c
      split at h0
      · rename_i c2
        rw [bd_eq hn, bd_eq k1] at c2
        have h1 := bd_lt hn
        have h2 := bd_lt k1
        have := (nI_leI (by omega) (by omega)).mp c2
        exact (g3 c).2.2 i (by omega)
      · exact absurd h0 (by decide)
  · exact absurd h0 (by decide)
theorem ix40 {a : Int32} (ha : bd a 8) {i : Nat} (hi : i < 40) : tn ((40 * a) + nI i) = 40 * tn a + i := by
  have hl := bd_lt ha
  have e : (40 : Int32) * a = nI (40 * tn a) := (congrArg (fun z => (40 : Int32) * z) (bd_eq ha)).trans (Int32.ofNat_mul 40 _).symm
  rw [e, show nI (40 * tn a) + nI i = nI (40 * tn a + i) from nI_add _ _, tn_nI (by omega)]
theorem e_isTold {s : Nat} (h : AG (A.1 s) (B.1 5)) (hw : bd (A.1 s 0 0) 9) {x : Int64} : sp_X5_isToldThrow A s x = sp_X9_isThrowTold B x := by
  unfold sp_X5_isToldThrow sp_X9_isThrowTold
  rw [← h.wc]
  by_cases c : x < 0
  · rw [if_pos c, if_pos c]
  · rw [if_neg c, if_neg c]
    obtain ⟨k, hk, rfl⟩ := lN_of0 c
    have hl := bd_lt hw
    rw [wc_l hw, show (lN k / 100 : Int64) = lN (k / 100) from pk_lDiv hk (by decide) (by decide), show (100 : Int64) * lN (tn (A.1 s 0 0)) = lN (100 * tn (A.1 s 0 0)) from (Int64.ofNat_mul 100 _).symm]
    have e : (lN (tn (A.1 s 0 0)) ≤ lN (k / 100)) ↔ (lN (100 * tn (A.1 s 0 0)) ≤ lN k) := by
      rw [pk_lLE (by omega) (by omega), pk_lLE (by omega) hk]
      omega
    by_cases c2 : lN (tn (A.1 s 0 0)) ≤ lN (k / 100)
    · rw [if_pos c2, if_pos (e.mp c2)]
    · rw [if_neg c2, if_neg (fun z => c2 (e.mpr z))]
end Shelves
