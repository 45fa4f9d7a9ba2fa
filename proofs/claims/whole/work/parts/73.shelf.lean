/-! ===== shelves ===== -/
section Shelf
variable {A B A' B' : MT}
def SX (A : MT) : Prop := ∀ t, t < 8 → bd (A.2.1 12 t) 41 ∧ bd (A.2.1 11 t) 5 ∧ (A.2.1 9 t = 0 ∨ A.2.1 9 t = 1) ∧ (A.2.1 10 t = -1 ∨ (A.2.1 9 t = 0 ∧ bd (A.2.1 10 t) 8 ∧ tn (A.2.1 10 t) < tn (A.1 0 1 0)))
theorem sr_sh {α : Type} {v w : α} (hx : OKX A) (hr : R2 A B) (e : v = w) (a1 : A'.1 = A.1) (a2 : ∀ c, c < 9 → A'.2.1 c = A.2.1 c) (b1 : B'.1 = B.1) (b2 : ∀ c, c ≠ 32 → c ≠ 33 → B'.2.1 c = B.2.1 c) (sx : SX A') (sh : SH A' B') : SR (v, A') (w, B') := by
  obtain ⟨x0, x1, x2, x3, x4, x5, x6⟩ := hx
  obtain ⟨r1, r2, r3, r4, r5⟩ := hr
  refine ⟨e, ⟨OKs_congr x0 (by rw [a1]), OKs_congr x1 (by rw [a1]), OKa_eq x2 (by rw [a1]), OKa_eq x3 (by rw [a1]), OKa_eq x4 (by rw [a1]), sx, ?_⟩, ?_, sh, ?_, ?_, ?_⟩
  · show bd (A'.2.1 6 0) 251; rw [a2 6 (by decide)]; exact x6
  · show AG (A'.1 0) (B'.1 5); rw [a1, b1]; exact r1
  · show TP A' B'; unfold TP; rw [a2 6 (by decide), a2 7 (by decide), b2 30 (by decide) (by decide), b2 31 (by decide) (by decide)]; exact r3
  · show RFU A' B'; unfold RFU; rw [a2 1 (by decide), b2 34 (by decide) (by decide)]; exact r4
  · show KP A' B'; unfold KP oldV; rw [a2 0 (by decide), b2 35 (by decide) (by decide), b2 30 (by decide) (by decide), a1]; exact r5
/-- one shelf's part of the relation -/
def SH1 (A B : MT) (t : Nat) : Prop := bd (B.2.1 33 t) 41 ∧ (A.2.1 9 t = 0 → B.2.1 32 t = (if A.2.1 10 t = -1 then -1 else 10 + A.2.1 10 t)) ∧
  (¬ A.2.1 9 t = 0 → B.2.1 32 t = A.2.1 11 t ∧ B.2.1 33 t = A.2.1 12 t ∧ ∀ i, i < tn (A.2.1 12 t) → B.2.2 8 (40 * t + i) = A.2.2 t i)
theorem sh_keep {t : Nat} (h : SH1 A B t) (a9 : A'.2.1 9 t = A.2.1 9 t) (a10 : A'.2.1 10 t = A.2.1 10 t) (a11 : A'.2.1 11 t = A.2.1 11 t) (a12 : A'.2.1 12 t = A.2.1 12 t) (aj : A'.2.2 t = A.2.2 t) (b32 : B'.2.1 32 t = B.2.1 32 t) (b33 : B'.2.1 33 t = B.2.1 33 t) (bj : ∀ i, i < 40 → B'.2.2 8 (40 * t + i) = B.2.2 8 (40 * t + i)) (k : bd (A.2.1 12 t) 41) : SH1 A' B' t := by
  have hl := bd_lt k
  unfold SH1
  rw [a9, a10, a11, a12, aj, b32, b33]
  exact ⟨h.1, h.2.1, fun q => ⟨(h.2.2 q).1, (h.2.2 q).2.1, fun i hi => by rw [bj i (by omega)]; exact (h.2.2 q).2.2 i hi⟩⟩
theorem u3_ne {M : MT} {r i r' : Nat} {v : Int64} (h : r' ≠ r) : (u3 M r i v).2.2 r' = M.2.2 r' := funext fun j => if_neg (fun z => h z.1)
theorem u3_eq {M : MT} {r i : Nat} {v : Int64} : (u3 M r i v).2.2 r i = v := if_pos ⟨rfl, rfl⟩
theorem u3_ie {M : MT} {r i i' : Nat} {v : Int64} (h : i' ≠ i) : (u3 M r i v).2.2 r i' = M.2.2 r i' := if_neg (fun z => h z.2)
theorem sim_show (hx : OKX A) (hr : R2 A B) {a0 a1 : Int32} : SR (sp_X8_show A a0 a1) (sp_X9_show B a0 a1) := by
  have h := hr.1
  unfold sp_X8_show sp_X9_show
  rw [e_shelf, e_one h]
  by_cases c1 : sp_X9_isShelf a0 = true
  · rw [if_pos c1, if_pos c1]
    have ht := bd_lt (isSh5 c1)
    have key : ∀ {v : Int32}, (a1 = -1 ∨ (bd a1 8 ∧ tn a1 < tn (A.1 0 1 0))) → (v = if a1 = -1 then -1 else 10 + a1) → SR (1, sp_X4_takePerson A (tn a0) a1) ((1 : Int32), u2 B 32 (tn a0) v) := by
      intro v hp hv
      have ne9 : ∀ c t, t ≠ tn a0 → (sp_X4_takePerson A (tn a0) a1).2.1 c t = A.2.1 c t := fun c t hne => by
        unfold sp_X4_takePerson
        rw [u2_ni (fun z => hne z.2), u2_ni (fun z => hne z.2)]
      have e9 : (sp_X4_takePerson A (tn a0) a1).2.1 9 (tn a0) = 0 := by
        unfold sp_X4_takePerson
        rw [u2_ni (by omega), u2_eq]
      have e10 : (sp_X4_takePerson A (tn a0) a1).2.1 10 (tn a0) = a1 := by
        unfold sp_X4_takePerson
        rw [u2_eq]
      have e11 : ∀ c, c ≠ 9 → c ≠ 10 → (sp_X4_takePerson A (tn a0) a1).2.1 c = A.2.1 c := fun c q9 q10 => by
        unfold sp_X4_takePerson
        rw [u2_ne q10, u2_ne q9]
      refine sr_sh hx hr rfl rfl (fun c hc => e11 c (by omega) (by omega)) rfl (fun c h2 _ => u2_ne h2) (fun t ht8 => ?_) (fun t ht8 => ?_)
      · obtain ⟨k1, k2, k3, k4⟩ := hx.2.2.2.2.2.1 t ht8
        rw [e11 12 (by decide) (by decide), e11 11 (by decide) (by decide)]
        by_cases e : t = tn a0
        · subst e
          rw [e9, e10]
          exact ⟨k1, k2, Or.inl rfl, hp.imp id (fun z => ⟨rfl, z⟩)⟩
        · rw [ne9 9 t e, ne9 10 t e]
          exact ⟨k1, k2, k3, k4⟩
      · show SH1 (sp_X4_takePerson A (tn a0) a1) (u2 B 32 (tn a0) v) t
        by_cases e : t = tn a0
        · subst e
          unfold SH1
          rw [e9, e10, u2_eq, u2_ne (by decide)]
          exact ⟨(hr.2.1 _ ht8).1, fun _ => hv, fun z => absurd rfl z⟩
        · exact sh_keep (hr.2.1 t ht8) (ne9 9 t e) (ne9 10 t e) (ne9 11 t e) (ne9 12 t e) rfl (u2_ie e) rfl (fun _ _ => rfl) (hx.2.2.2.2.2.1 t ht8).1
    by_cases c2 : a1 = -1
    · rw [if_pos c2, if_pos c2]
      exact key (Or.inl c2) (by rw [if_pos c2])
    · rw [if_neg c2, if_neg c2]
      by_cases c3 : sp_X9_isOne B a1 = true
      · rw [if_pos c3, if_pos c3]
        have p := one_in h hx c3
        have b8 : bd a1 8 := by
          have := hx.1.2.1
          rw [h.pc] at this
          exact hasP5 this c3
        exact key (Or.inr ⟨b8, p.1⟩) (by rw [if_neg c2])
      · rw [if_neg c3, if_neg c3]; exact sr_no hx hr (by decide)
  · rw [if_neg c1, if_neg c1]; exact sr_no hx hr (by decide)
theorem fit_eq {M : MT} {t : Nat} {v : Int64} (h : bd (M.2.1 11 t) 5) : sp_X3_fitted M t v = sp_X9_kept (M.2.1 11 t) v := by
  have e := bd_eq h
  have hl := bd_lt h
  unfold sp_X3_fitted sp_X9_kept
  obtain ⟨k, hk⟩ : ∃ k, k = tn (M.2.1 11 t) := ⟨_, rfl⟩
  rw [← hk] at e hl
  rw [e]
  rcases (show k = 0 ∨ k = 1 ∨ k = 2 ∨ k = 3 ∨ k = 4 by omega) with rfl | rfl | rfl | rfl | rfl <;> rfl
theorem told0 {a : Int32} (hx : OKX A) (hs : sp_X9_isShelf a = true) : sp_X8_rowRefusal A a 0 = 0 ↔ ¬ A.2.1 9 (tn a) = 0 := by
  have ht := bd_lt (isSh5 hs)
  obtain ⟨k1, k2, k3, k4⟩ := hx.2.2.2.2.2.1 _ ht
  unfold sp_X8_rowRefusal
  rw [e_shelf, if_pos hs]
  have g0 : (0 : Int32) ≤ A.2.1 12 (tn a) := Int32.not_lt.mp k1.1
  by_cases c : A.2.1 9 (tn a) = 0
  · rw [if_pos c]
    constructor
    · intro z; split at z
      · exact absurd z (by decide)
      · exact absurd z (by decide)
    · intro z; exact absurd c z
  · rw [if_neg c, if_pos g0, if_pos (k4.resolve_right (fun z => c z.1))]
    exact ⟨fun _ => c, fun _ => rfl⟩
theorem sim_set (hx : OKX A) (hr : R2 A B) {a0 a1 : Int32} {a2 : Int64} : SR (sp_X8_set A a0 a1 a2) (sp_X9_set B a0 a1 a2) := by
  unfold sp_X8_set sp_X9_set
  by_cases c0 : sp_X9_isShelf a0 = true
  · have ha := isSh5 c0
    have ht := bd_lt ha
    obtain ⟨k1, k2, k3, k4⟩ := hx.2.2.2.2.2.1 _ ht
    obtain ⟨_, g2, g3⟩ := hr.2.1 _ ht
    rw [if_pos c0]
    by_cases c : A.2.1 9 (tn a0) = 0
    · have n : ¬ sp_X9_isRow B a0 = true := fun z => (is_row hx hr ha).mp z c
      have e := e_noTold hx hr (n := 0) ha c0
      have e2 : sp_X9_noTold B a0 0 = sp_X9_noRow B a0 := by unfold sp_X9_noTold; rw [if_neg n]
      rw [if_neg (fun z => (told0 hx c0).mp z c), if_neg n, ← e2]
      exact sr_told hx hr e
    · rw [if_pos ((told0 hx c0).mpr c), if_pos ((is_row hx hr ha).mpr c), (g3 c).2.1, (g3 c).1, fit_eq k2]
      unfold sp_X3_hasElement
      rw [← w98]
      by_cases c2 : sp_X9_within a1 0 (A.2.1 12 (tn a0) - 1) = true
      · have b := bd_of (n := 40) k1 (within_iff.mp (w98 ▸ c2)).1 (within_iff.mp (w98 ▸ c2)).2
        have hl := bd_lt b.1
        rw [if_pos c2, if_pos c2]
        have e : tn ((40 * a0) + a1) = 40 * tn a0 + tn a1 := by
          conv => lhs; rw [bd_eq b.1]
          exact ix40 ha hl
        rw [e]
        refine sr_sh hx hr rfl rfl (fun c _ => rfl) rfl (fun c _ _ => rfl) hx.2.2.2.2.2.1 (fun t ht8 => ?_)
        show SH1 (u3 A (tn a0) (tn a1) (sp_X9_kept (A.2.1 11 (tn a0)) a2)) (u3 B 8 (40 * tn a0 + tn a1) (sp_X9_kept (A.2.1 11 (tn a0)) a2)) t
        by_cases et : t = tn a0
        · refine ⟨(hr.2.1 t ht8).1, (hr.2.1 t ht8).2.1, fun q => ⟨((hr.2.1 t ht8).2.2 q).1, ((hr.2.1 t ht8).2.2 q).2.1, fun i hi => ?_⟩⟩
          rw [et]
          by_cases ei : i = tn a1
          · rw [ei, u3_eq, u3_eq]
          · rw [u3_ie (by omega), u3_ie ei, ← et]
            exact ((hr.2.1 t ht8).2.2 q).2.2 i hi
        · exact sh_keep (hr.2.1 t ht8) rfl rfl rfl rfl (u3_ne et) rfl rfl (fun i hi => u3_ie (by omega)) (hx.2.2.2.2.2.1 t ht8).1
      · rw [if_neg c2, if_neg c2]; exact sr_no hx hr (by decide)
  · rw [if_neg c0]
    have e : sp_X8_rowRefusal A a0 0 = -2 := by unfold sp_X8_rowRefusal; rw [e_shelf, if_neg c0]
    rw [e, if_neg (show ¬ (-2 : Int32) = 0 by decide)]
    exact sr_no hx hr (by decide)
theorem tr_spec {M : MT} {t : Nat} {a n : Int32} : (∀ c, (sp_X4_takeRow M t a n).1 c = M.1 c) ∧ (sp_X4_takeRow M t a n).2.1 = (u2 (u2 (u2 (u2 M 9 t 1) 10 t (-1)) 11 t a) 12 t n).2.1 ∧ (∀ r, r ≠ t → (sp_X4_takeRow M t a n).2.2 r = M.2.2 r) ∧ ∀ i, i < tn n → (sp_X4_takeRow M t a n).2.2 t i = 0 := by
  unfold sp_X4_takeRow
  have := itN_ind (f := st_X4_takeRow_28 M t a n) (b := u2 (u2 (u2 (u2 M 9 t 1) 10 t (-1)) 11 t a) 12 t n) (fun k m => m.1 = M.1 ∧ m.2.1 = (u2 (u2 (u2 (u2 M 9 t 1) 10 t (-1)) 11 t a) 12 t n).2.1 ∧ (∀ r, r ≠ t → m.2.2 r = M.2.2 r) ∧ ∀ i, i < k → m.2.2 t i = 0) (tn n) ⟨rfl, rfl, fun _ _ => rfl, fun i hi => absurd hi (Nat.not_lt_zero i)⟩ (fun k m hk hm => by
    obtain ⟨m1, m2, m3, m4⟩ := hm
    unfold st_X4_takeRow_28
    refine ⟨m1, m2, fun r hr => (u3_ne hr).trans (m3 r hr), fun i hi => ?_⟩
    by_cases e : i = k
    · rw [e, u3_eq]
    · rw [u3_ie e]; exact m4 i (by omega))
  exact ⟨fun c => congrFun this.1 c, this.2.1, this.2.2.1, this.2.2.2⟩
theorem rw_spec {s a n : Int32} (hs : bd s 8) : ∀ k, k ≤ 40 → (itN k (st_X9_row_50 B s a n) (u2 (u2 B 32 (tn s) a) 33 (tn s) n)).1 = B.1 ∧ (itN k (st_X9_row_50 B s a n) (u2 (u2 B 32 (tn s) a) 33 (tn s) n)).2.1 = (u2 (u2 B 32 (tn s) a) 33 (tn s) n).2.1 ∧
    (∀ j, ¬ (40 * tn s ≤ j ∧ j < 40 * tn s + 40) → (itN k (st_X9_row_50 B s a n) (u2 (u2 B 32 (tn s) a) 33 (tn s) n)).2.2 8 j = B.2.2 8 j) ∧ (∀ i, i < k → (itN k (st_X9_row_50 B s a n) (u2 (u2 B 32 (tn s) a) 33 (tn s) n)).2.2 8 (40 * tn s + i) = 0)
  | 0, _ => ⟨rfl, rfl, fun _ _ => rfl, fun i hi => absurd hi (Nat.not_lt_zero i)⟩
  | k + 1, hk => by
    obtain ⟨m1, m2, m3, m4⟩ := rw_spec (a := a) (n := n) hs k (by omega)
    rw [itN_s]
    generalize itN k (st_X9_row_50 B s a n) (u2 (u2 B 32 (tn s) a) 33 (tn s) n) = m at m1 m2 m3 m4 ⊢
    unfold st_X9_row_50
    rw [ix40 hs (by omega)]
    refine ⟨m1, m2, fun j hj => ?_, fun i hi => ?_⟩
    · rw [u3_ie (by omega)]; exact m3 j hj
    · by_cases e : i = k
      · rw [e, u3_eq]
      · rw [u3_ie (by omega)]; exact m4 i (by omega)
theorem sim_row (hx : OKX A) (hr : R2 A B) {a0 a1 a2 : Int32} : SR (sp_X8_row A a0 a1 a2) (sp_X9_row B a0 a1 a2) := by
  unfold sp_X8_row sp_X9_row
  rw [e_shelf, ← w98, ← w98]
  by_cases c0 : sp_X9_isShelf a0 = true
  · rw [if_pos c0, if_pos c0]
    have ha := isSh5 c0
    have ht := bd_lt ha
    by_cases c1 : sp_X9_within a1 0 4 = true
    · rw [if_pos c1, if_pos c1]
      have h4 := wi5_bd (n := 4) c1 rfl (by omega)
      by_cases c2 : sp_X9_within a2 0 40 = true
      · rw [if_pos c2, if_pos c2]
        have h40 := wi5_bd (n := 40) c2 rfl (by omega)
        have hl := bd_lt h40
        obtain ⟨s1, s2, s3, s4⟩ := tr_spec (M := A) (t := tn a0) (a := a1) (n := a2)
        obtain ⟨q1, q2, q3, q4⟩ := rw_spec (B := B) (a := a1) (n := a2) ha 40 (Nat.le_refl _)
        generalize sp_X4_takeRow A (tn a0) a1 a2 = x at s1 s2 s3 s4 ⊢
        generalize itN 40 (st_X9_row_50 B a0 a1 a2) (u2 (u2 B 32 (tn a0) a1) 33 (tn a0) a2) = y at q1 q2 q3 q4 ⊢
        have lo : ∀ c, c < 9 → x.2.1 c = A.2.1 c := fun c hc => by
          rw [s2, u2_ne (by omega), u2_ne (by omega), u2_ne (by omega), u2_ne (by omega)]
        have ne : ∀ c t, t ≠ tn a0 → x.2.1 c t = A.2.1 c t := fun c t e => by
          rw [s2, u2_ni (fun z => e z.2), u2_ni (fun z => e z.2), u2_ni (fun z => e z.2), u2_ni (fun z => e z.2)]
        have e9 : x.2.1 9 (tn a0) = 1 := by rw [s2, u2_ni (by omega), u2_ni (by omega), u2_ni (by omega), u2_eq]
        have e10 : x.2.1 10 (tn a0) = -1 := by rw [s2, u2_ni (by omega), u2_ni (by omega), u2_eq]
        have e11 : x.2.1 11 (tn a0) = a1 := by rw [s2, u2_ni (by omega), u2_eq]
        have e12 : x.2.1 12 (tn a0) = a2 := by rw [s2, u2_eq]
        have y32 : y.2.1 32 (tn a0) = a1 := by rw [q2, u2_ni (by omega), u2_eq]
        have y33 : y.2.1 33 (tn a0) = a2 := by rw [q2, u2_eq]
        have yne : ∀ c t, t ≠ tn a0 → y.2.1 c t = B.2.1 c t := fun c t e => by
          rw [q2, u2_ni (fun z => e z.2), u2_ni (fun z => e z.2)]
        refine sr_sh hx hr rfl (funext s1) lo q1 (fun c h2 h3 => by rw [q2, u2_ne h3, u2_ne h2]) (fun t ht8 => ?_) (fun t ht8 => ?_)
        · obtain ⟨k1, k2, k3, k4⟩ := hx.2.2.2.2.2.1 t ht8
          by_cases e : t = tn a0
          · subst e
            rw [e9, e10, e11, e12]
            exact ⟨h40, h4, Or.inr rfl, Or.inl rfl⟩
          · rw [ne 9 t e, ne 10 t e, ne 11 t e, ne 12 t e, s1 0]
            exact ⟨k1, k2, k3, k4⟩
        · show SH1 x y t
          by_cases e : t = tn a0
          · subst e
            unfold SH1
            rw [e9, e10, e11, e12, y32, y33]
            exact ⟨h40, fun z => absurd z (by decide), fun _ => ⟨rfl, rfl, fun i hi => by rw [s4 i hi, q4 i (by omega)]⟩⟩
          · exact sh_keep (hr.2.1 t ht8) (ne 9 t e) (ne 10 t e) (ne 11 t e) (ne 12 t e) (s3 t e) (yne 32 t e) (yne 33 t e) (fun i hi => q3 _ (by omega)) (hx.2.2.2.2.2.1 t ht8).1
      · rw [if_neg c2, if_neg c2]; exact sr_no hx hr (by decide)
    · rw [if_neg c1, if_neg c1]; exact sr_no hx hr (by decide)
  · rw [if_neg c0, if_neg c0]; exact sr_no hx hr (by decide)
end Shelf
