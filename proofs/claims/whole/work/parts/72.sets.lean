/-! ===== calls that change the street, the tape, the shelves ===== -/
theorem pc_keep {A A' : MT} (h : ∀ t, t < 8 → bd (A.2.1 12 t) 41 ∧ bd (A.2.1 11 t) 5 ∧ (A.2.1 9 t = 0 ∨ A.2.1 9 t = 1) ∧ (A.2.1 10 t = -1 ∨ (A.2.1 9 t = 0 ∧ bd (A.2.1 10 t) 8 ∧ tn (A.2.1 10 t) < tn (A.1 0 1 0)))) (e : A'.2 = A.2) (hp : tn (A.1 0 1 0) ≤ tn (A'.1 0 1 0)) :
    ∀ t, t < 8 → bd (A'.2.1 12 t) 41 ∧ bd (A'.2.1 11 t) 5 ∧ (A'.2.1 9 t = 0 ∨ A'.2.1 9 t = 1) ∧ (A'.2.1 10 t = -1 ∨ (A'.2.1 9 t = 0 ∧ bd (A'.2.1 10 t) 8 ∧ tn (A'.2.1 10 t) < tn (A'.1 0 1 0))) := by
  intro t ht
  rw [e]
  obtain ⟨h1, h2, h3, h4⟩ := h t ht
  exact ⟨h1, h2, h3, h4.imp id (fun ⟨a, b, c⟩ => ⟨a, b, Nat.lt_of_lt_of_le c hp⟩)⟩
section Sets
variable {A B A' B' : MT}
theorem sr_s0 {α : Type} {v w : α} (hx : OKX A) (hr : R2 A B) (e : v = w) (h0 : OKs A' 0) (hne : ∀ t, t ≠ 0 → A'.1 t = A.1 t) (h2 : A'.2 = A.2) (hp : tn (A.1 0 1 0) ≤ tn (A'.1 0 1 0)) (hB : B'.2 = B.2) (ag : AG (A'.1 0) (B'.1 5)) : SR (v, A') (w, B') := by
  obtain ⟨x0, x1, x2, x3, x4, x5, x6⟩ := hx
  obtain ⟨r1, r2, r3, r4, r5⟩ := hr
  refine ⟨e, ⟨h0, OKs_congr x1 (hne 1 (by decide)), OKa_eq x2 (hne 2 (by decide)), OKa_eq x3 (hne 3 (by decide)), OKa_eq x4 (hne 4 (by decide)), pc_keep x5 h2 hp, ?_⟩, ag, ?_, ?_, ?_, ?_⟩
  · show bd (A'.2.1 6 0) 251; rw [h2]; exact x6
  · show SH A' B'; unfold SH; rw [h2, hB]; exact r2
  · show TP A' B'; unfold TP; rw [h2, hB]; exact r3
  · show RFU A' B'; unfold RFU; rw [h2, hB]; exact r4
  · show KP A' B'; unfold KP oldV; rw [h2, hB, hne 1 (by decide)]; exact r5
theorem u1_pc {f i : Nat} {v : Int32} (h : f ≠ 1) : tn (A.1 0 1 0) ≤ tn ((u1 A 0 f i v).1 0 1 0) := by rw [u1_f (fun z => h z.symm)]; exact Nat.le_refl _
theorem sr_u1 {α : Type} {x y : α} {f i : Nat} {v : Int32} (hx : OKX A) (hr : R2 A B) (e : x = y) (h0 : f ≠ 0) (h1 : f ≠ 1) (ok : OKs (u1 A 0 f i v) 0) : SR (x, u1 A 0 f i v) (y, u1 B 5 f i v) :=
  sr_s0 hx hr e ok (fun t ht => u1_ne ht) rfl (u1_pc h1) rfl (by rw [u1_V, u1_V]; exact AG_up hr.1 h0 h1)
theorem sim_paves (hx : OKX A) (hr : R2 A B) {a0 : Int32} : SR (sp_X8_paves A a0) (sp_X9_paves B a0) := by
  have h := hr.1
  unfold sp_X8_paves sp_X9_paves
  rw [← w98, ← h.cl]
  by_cases c : sp_X9_within a0 (A.1 0 2 0) 30 = true
  · rw [if_pos c, if_pos c]
    have g := within_iff.mp (w98 ▸ c)
    have hc := hx.1.2.2.1.1
    have g0 : 0 ≤ a0 := Int32.le_trans (Int32.not_lt.mp hc.1) g.1
    have hb : bd a0 31 := bd_in (m := 30) g0 g.2 (by omega) (by omega)
    refine sr_u1 hx hr rfl (by decide) (by decide) (OKs_cells hx.1 hb ?_)
    have g1 := g.1
    have hl := bd_lt hb
    rw [bd_eq hc, bd_eq hb] at g1
    exact (nI_leI (by have := bd_lt hc; omega) (by omega)).mp g1
  · rw [if_neg c, if_neg c]; exact sr_no hx hr (by decide)
theorem sim_put (hx : OKX A) (hr : R2 A B) {a0 a1 : Int32} : SR (sp_X8_put A a0 a1) (sp_X9_put B a0 a1) := by
  have h := hr.1
  unfold sp_X8_put sp_X9_put
  rw [e_one h, e_cell h]
  by_cases c : sp_X9_isOne B a0 = true
  · rw [if_pos c, if_pos c]
    have p := one_in h hx c
    by_cases c2 : sp_X9_isCell B a1 = true
    · rw [if_pos c2, if_pos c2]
      obtain ⟨k, hk, hk2, rfl⟩ := cell_n hx.1 (by rw [e_cell h]; exact c2)
      have hcl := bd_lt hx.1.2.2.1.1
      exact sr_u1 hx hr (h.pe p.1 (by omega) (by omega)) (by decide) (by decide) (OKs_at hx.1 (bd_nI hk2 (by omega)))
    · rw [if_neg c2, if_neg c2]; exact sr_no hx hr (by decide)
  · rw [if_neg c, if_neg c]; exact sr_no hx hr (by decide)
theorem sim_tell (hx : OKX A) (hr : R2 A B) {a0 a1 : Int32} : SR (sp_X8_tell A a0 a1) (sp_X9_tell B a0 a1) := by
  have h := hr.1
  unfold sp_X8_tell sp_X9_tell
  rw [e_what, ← w98, ← w98]
  by_cases c : sp_X9_within a0 0 2 = true
  · rw [if_pos c, if_pos c]
    have g := wi5_bd (n := 2) c rfl (by omega)
    have e := bd_eq g
    have hl := bd_lt g
    obtain ⟨k, hk⟩ : ∃ k, k = tn a0 := ⟨_, rfl⟩
    rw [← hk] at e hl ⊢
    clear hk
    subst e
    rcases (show k = 0 ∨ k = 1 ∨ k = 2 by omega) with rfl | rfl | rfl
    · rw [if_pos (show nI 0 = 0 from rfl), if_pos (show nI 0 = 0 from rfl), if_pos (show nI 0 = 0 from rfl)]
      by_cases c2 : sp_X9_within a1 0 10 = true
      · rw [if_pos c2, if_pos c2]
        exact sr_u1 hx hr (h.wy (by omega)) (by decide) (by decide) (OKs_wind hx.1 (wi5_bd (n := 10) c2 rfl (by omega)))
      · rw [if_neg c2, if_neg c2]; exact sr_no hx hr (by decide)
    · rw [if_neg (show ¬ nI 1 = 0 by decide), if_neg (show ¬ nI 1 = 0 by decide)]
      by_cases c2 : sp_X9_within a1 0 999 = true
      · rw [if_pos c2, if_pos c2, if_neg (show ¬ nI 1 = 0 by decide), if_pos (show nI 1 = 1 from rfl)]
        exact sr_u1 hx hr (h.wy (by omega)) (by decide) (by decide) (OKs_day (Or.inl rfl) (wi5_bd (n := 999) c2 rfl (by omega)) hx.1)
      · rw [if_neg c2, if_neg c2]; exact sr_no hx hr (by decide)
    · rw [if_neg (show ¬ nI 2 = 0 by decide), if_neg (show ¬ nI 2 = 0 by decide)]
      by_cases c2 : sp_X9_within a1 0 999 = true
      · rw [if_pos c2, if_pos c2, if_neg (show ¬ nI 2 = 0 by decide), if_neg (show ¬ nI 2 = 1 by decide)]
        exact sr_u1 hx hr (h.wy (by omega)) (by decide) (by decide) (OKs_day (Or.inr rfl) (wi5_bd (n := 999) c2 rfl (by omega)) hx.1)
      · rw [if_neg c2, if_neg c2]; exact sr_no hx hr (by decide)
  · rw [if_neg c, if_neg c]; exact sr_no hx hr (by decide)
theorem sim_seed (hx : OKX A) (hr : R2 A B) {a0 : Int32} : SR (sp_X8_seed A a0) (sp_X9_seed B a0) :=
  sr_u1 hx hr hr.1.se (by decide) (by decide) (OKs_other (Or.inr rfl) hx.1)
/-- what a new window writes, a new one of the people -/
def awW (V : Nat → Nat → Int32) (a b c : Int32) : Nat → Nat → Int32 := fun f i =>
  if f = 0 ∧ i = 0 then V 0 0 + 1 else if f = 6 ∧ i = tn (V 0 0) then a else if f = 7 ∧ i = tn (V 0 0) then b else if f = 8 ∧ i = tn (V 0 0) then c else V f i
def apW (V : Nat → Nat → Int32) (a b c : Int32) : Nat → Nat → Int32 := fun f i =>
  if f = 1 ∧ i = 0 then V 1 0 + 1 else if i = tn (V 1 0) then (if f = 9 then a else if f = 10 then b else if f = 11 then c else if f = 12 then -1 else if f = 13 then -1 else V f i) else V f i
theorem nw_V {a b c : Int32} : (sp_X9_newWindow B a b c).2.1 5 = awW (B.1 5) a b c := by
  funext f i
  unfold sp_X9_newWindow awW u1
  dsimp only
  by_cases h0 : f = 0
  · subst h0; simp
  · by_cases h6 : f = 6
    · subst h6; simp
    · by_cases h7 : f = 7
      · subst h7; simp
      · by_cases h8 : f = 8
        · subst h8; simp
        · simp [h0, h6, h7, h8]
theorem no_V {a b c : Int32} : (sp_X9_newOne B a b c).2.1 5 = apW (B.1 5) a b c := by
  funext f i
  unfold sp_X9_newOne apW u1
  dsimp only
  by_cases h1 : f = 1
  · subst h1; simp
  · by_cases h9 : f = 9
    · subst h9; simp
    · by_cases h10 : f = 10
      · subst h10; simp
      · by_cases h11 : f = 11
        · subst h11; simp
        · by_cases h12 : f = 12
          · subst h12; simp
          · by_cases h13 : f = 13
            · subst h13; simp
            · simp [h1, h9, h10, h11, h12, h13]
theorem aw_key {V W : Nat → Nat → Int32} {a b c : Int32} {f i : Nat} (w : V 0 0 = W 0 0) (hh : (f = 0 ∧ i = 0) ∨ (i = tn (V 0 0) ∧ (f = 6 ∨ f = 7 ∨ f = 8)) ∨ V f i = W f i) : awW V a b c f i = awW W a b c f i := by
  unfold awW
  rw [← w]
  rcases hh with ⟨rfl, rfl⟩ | ⟨rfl, rfl | rfl | rfl⟩ | e
  · simp
  · simp
  · simp
  · simp
  · rw [e]
theorem ap_key {V W : Nat → Nat → Int32} {a b c : Int32} {f i : Nat} (w : V 1 0 = W 1 0) (hh : (f = 1 ∧ i = 0) ∨ (i = tn (V 1 0) ∧ (f = 9 ∨ f = 10 ∨ f = 11 ∨ f = 12 ∨ f = 13)) ∨ V f i = W f i) : apW V a b c f i = apW W a b c f i := by
  unfold apW
  rw [← w]
  rcases hh with ⟨rfl, rfl⟩ | ⟨rfl, rfl | rfl | rfl | rfl | rfl⟩ | e
  · simp
  · simp
  · simp
  · simp
  · simp
  · simp
  · rw [e]
theorem AG_aw {V W : Nat → Nat → Int32} {a b c : Int32} (h : AG V W) (h8 : bd (V 0 0) 8) : AG (awW V a b c) (awW W a b c) := by
  have e1 : tn (awW V a b c 0 0) = tn (V 0 0) + 1 := suc_tn h8 (by decide)
  have ev : awW V a b c 1 0 = V 1 0 := by unfold awW; simp
  have w := h.wc
  refine ⟨fun f h6 h3 => aw_key w ?_, fun i hi => aw_key w (Or.inr (Or.inr (h.2.1 i hi))), fun f i h6 h9 hi => aw_key w ?_, fun f p h9 h14 hp => aw_key w ?_⟩
  · by_cases c0 : f = 0
    · exact Or.inl ⟨c0, rfl⟩
    · exact Or.inr (Or.inr (h.1 f h6 h3))
  · rw [e1] at hi
    by_cases e : i = tn (V 0 0)
    · exact Or.inr (Or.inl ⟨e, by omega⟩)
    · exact Or.inr (Or.inr (h.2.2.1 f i h6 h9 (by omega)))
  · rw [ev] at hp
    exact Or.inr (Or.inr (h.2.2.2 f p h9 h14 hp))
theorem AG_ap {V W : Nat → Nat → Int32} {a b c : Int32} (h : AG V W) (h8 : bd (V 1 0) 8) : AG (apW V a b c) (apW W a b c) := by
  have e1 : tn (apW V a b c 1 0) = tn (V 1 0) + 1 := suc_tn h8 (by decide)
  have ev : apW V a b c 0 0 = V 0 0 := by unfold apW; simp
  have w := h.pc
  refine ⟨fun f h6 h3 => ap_key w ?_, fun i hi => ap_key w (Or.inr (Or.inr (h.2.1 i hi))), fun f i h6 h9 hi => ap_key w ?_, fun f p h9 h14 hp => ap_key w ?_⟩
  · by_cases c0 : f = 1
    · exact Or.inl ⟨c0, rfl⟩
    · exact Or.inr (Or.inr (h.1 f h6 h3))
  · rw [ev] at hi
    exact Or.inr (Or.inr (h.2.2.1 f i h6 h9 hi))
  · rw [e1] at hp
    by_cases e : p = tn (V 1 0)
    · exact Or.inr (Or.inl ⟨e, by omega⟩)
    · exact Or.inr (Or.inr (h.2.2.2 f p h9 h14 (by omega)))
theorem aw_fst {M : MT} {s : Nat} {a b c : Int32} : (sp_X5_addWindow M s a b c).1 = M.1 s 0 0 := by
  have e := aw_0 (M := M) (s := s) (a := a) (b := b) (c := c)
  have e2 : (sp_X5_addWindow M s a b c).1 = (sp_X5_addWindow M s a b c).2.1 s 0 0 - 1 := by unfold sp_X5_addWindow; rfl
  rw [e2, e, Int32.add_sub_cancel]
theorem ap_fst {M : MT} {s : Nat} {a b c : Int32} : (sp_X5_addPerson M s a b c).1 = M.1 s 1 0 := by
  have e := ap_1 (M := M) (s := s) (a := a) (b := b) (c := c)
  have e2 : (sp_X5_addPerson M s a b c).1 = (sp_X5_addPerson M s a b c).2.1 s 1 0 - 1 := by unfold sp_X5_addPerson; rfl
  rw [e2, e, Int32.add_sub_cancel]
theorem room_iff {x : Int32} (h : bd x 9) : (8 : Int32) ≤ x ↔ x = 8 := by
  have hl := bd_lt h
  rw [bd_eq h]
  constructor
  · intro z
    have := (nI_leI (a := 8) (by omega) (by omega)).mp z
    rw [show tn x = 8 by omega]; rfl
  · intro z
    rw [z]; decide
theorem sim_window (hx : OKX A) (hr : R2 A B) {a0 a1 a2 : Int32} : SR (sp_X8_window A a0 a1 a2) (sp_X9_window B a0 a1 a2) := by
  have h := hr.1
  have ok := hx.1
  unfold sp_X8_window sp_X9_window
  rw [e_cell h, e_thorns, ← w98]
  by_cases c1 : sp_X9_isCell B a0 = true
  · rw [if_pos c1, if_pos c1]
    by_cases c2 : sp_X9_within a1 1 5 = true
    · rw [if_pos c2, if_pos c2]
      by_cases c3 : sp_X9_within a2 0 9 = true
      · rw [if_pos c3, if_pos c3]
        unfold sp_X5_hasRoomForWindow
        by_cases c4 : (8 : Int32) ≤ A.1 0 0 0
        · rw [if_pos c4, if_neg (by decide), if_pos (by rw [← h.wc]; exact (room_iff ok.1).mp c4)]
          exact sr_no hx hr (by decide)
        · have c5 : ¬ A.1 0 0 0 = 8 := fun z => c4 ((room_iff ok.1).mpr z)
          rw [if_neg c4, if_pos rfl, if_neg (by rw [← h.wc]; exact c5)]
          have h8 := ne8 ok.1 c5
          obtain ⟨k, hk, hk2, rfl⟩ := cell_n ok (by rw [e_cell h]; exact c1)
          have b2 := wi5_bd1 (n := 5) c2 rfl (by omega)
          have b21 := bd_ge1 (within_iff.mp (w98 ▸ c2)).1 b2
          have b3 := wi5_bd (n := 9) c3 rfl (by omega)
          have e1 : (sp_X5_addWindow A 0 (nI k) a1 a2).2.1 0 = awW (A.1 0) (nI k) a1 a2 := aw_V
          refine sr_s0 hx hr ?_ ?_ (fun t ht => aw_ne ht) aw_J ?_ nw_2 ?_
          · rw [aw_fst]; exact h.wc
          · rw [OKs_v, aw_V]
            have hcl := bd_lt ok.2.2.1.1
            exact OKv_aw ok h8 (bd_nI hk2 (by omega)) b2 b21 b3
          · rw [aw_1]; exact Nat.le_refl _
          · rw [e1, nw_V]
            exact AG_aw h h8
      · rw [if_neg c3, if_neg c3]; exact sr_no hx hr (by decide)
    · rw [if_neg c2, if_neg c2]; exact sr_no hx hr (by decide)
  · rw [if_neg c1, if_neg c1]; exact sr_no hx hr (by decide)
theorem sim_person (hx : OKX A) (hr : R2 A B) {a0 a1 a2 : Int32} : SR (sp_X8_person A a0 a1 a2) (sp_X9_person B a0 a1 a2) := by
  have h := hr.1
  have ok := hx.1
  unfold sp_X8_person sp_X9_person
  rw [e_cell h, e_kind, ← w98]
  by_cases c1 : sp_X9_within a0 0 5 = true
  · rw [if_pos c1, if_pos c1]
    by_cases c2 : sp_X9_within a1 0 9 = true
    · rw [if_pos c2, if_pos c2]
      by_cases c3 : sp_X9_isCell B a2 = true
      · rw [if_pos c3, if_pos c3]
        unfold sp_X5_hasRoomForPerson
        by_cases c4 : (8 : Int32) ≤ A.1 0 1 0
        · rw [if_pos c4, if_neg (by decide), if_pos (by rw [← h.pc]; exact (room_iff ok.2.1).mp c4)]
          exact sr_no hx hr (by decide)
        · have c5 : ¬ A.1 0 1 0 = 8 := fun z => c4 ((room_iff ok.2.1).mpr z)
          rw [if_neg c4, if_pos rfl, if_neg (by rw [← h.pc]; exact c5)]
          have h8 := ne8 ok.2.1 c5
          obtain ⟨k, hk, hk2, rfl⟩ := cell_n ok (by rw [e_cell h]; exact c3)
          have b1 := wi5_bd (n := 5) c1 rfl (by omega)
          have b2 := wi5_bd (n := 9) c2 rfl (by omega)
          have e1 : (sp_X5_addPerson A 0 a0 a1 (nI k)).2.1 0 = apW (A.1 0) a0 a1 (nI k) := ap_V
          refine sr_s0 hx hr ?_ ?_ (fun t ht => ap_ne ht) ap_J ?_ no_2 ?_
          · rw [ap_fst]; exact h.pc
          · rw [OKs_v, ap_V]
            have hcl := bd_lt ok.2.2.1.1
            exact OKv_ap ok h8 b1 b2 (bd_nI hk2 (by omega))
          · rw [ap_1, suc_tn h8 (by decide)]; exact Nat.le_succ _
          · rw [e1, no_V]
            exact AG_ap h h8
      · rw [if_neg c3, if_neg c3]; exact sr_no hx hr (by decide)
    · rw [if_neg c2, if_neg c2]; exact sr_no hx hr (by decide)
  · rw [if_neg c1, if_neg c1]; exact sr_no hx hr (by decide)
/-- the tape alone -/
theorem sr_tp {α : Type} {v w : α} (hx : OKX A) (hr : R2 A B) (e : v = w) (a1 : A'.1 = A.1) (a2 : ∀ c, c ≠ 6 → c ≠ 7 → A'.2.1 c = A.2.1 c) (a3 : A'.2.2 = A.2.2) (b1 : B'.1 = B.1) (b2 : ∀ c, c ≠ 30 → c ≠ 31 → B'.2.1 c = B.2.1 c) (b3 : B'.2.2 = B.2.2) (b5 : B'.2.1 30 5 = B.2.1 30 5) (sz : bd (A'.2.1 6 0) 251) (tp : TP A' B') : SR (v, A') (w, B') := by
  obtain ⟨x0, x1, x2, x3, x4, x5, x6⟩ := hx
  obtain ⟨r1, r2, r3, r4, r5⟩ := hr
  refine ⟨e, ⟨OKs_congr x0 (by rw [a1]), OKs_congr x1 (by rw [a1]), OKa_eq x2 (by rw [a1]), OKa_eq x3 (by rw [a1]), OKa_eq x4 (by rw [a1]), ?_, sz⟩, ?_, ?_, tp, ?_, ?_⟩
  · show ∀ t, t < 8 → bd (A'.2.1 12 t) 41 ∧ bd (A'.2.1 11 t) 5 ∧ (A'.2.1 9 t = 0 ∨ A'.2.1 9 t = 1) ∧ (A'.2.1 10 t = -1 ∨ (A'.2.1 9 t = 0 ∧ bd (A'.2.1 10 t) 8 ∧ tn (A'.2.1 10 t) < tn (A'.1 0 1 0)))
    rw [a1, a2 12 (by decide) (by decide), a2 11 (by decide) (by decide), a2 9 (by decide) (by decide), a2 10 (by decide) (by decide)]; exact x5
  · show AG (A'.1 0) (B'.1 5); rw [a1, b1]; exact r1
  · show SH A' B'; unfold SH; rw [a2 12 (by decide) (by decide), a2 11 (by decide) (by decide), a2 9 (by decide) (by decide), a2 10 (by decide) (by decide), a3, b2 32 (by decide) (by decide), b2 33 (by decide) (by decide), b3]; exact r2
  · show RFU A' B'; unfold RFU; rw [a2 1 (by decide) (by decide), b2 34 (by decide) (by decide)]; exact r4
  · show KP A' B'; unfold KP oldV; rw [a2 0 (by decide) (by decide), b2 35 (by decide) (by decide), b5, a1]; exact r5
theorem sim_wipe (hx : OKX A) (hr : R2 A B) : SR (sp_X8_wipe A) (sp_X9_wipe B) := by
  unfold sp_X8_wipe sp_X9_wipe
  refine sr_tp hx hr hr.2.2.1.1 rfl (fun c h6 _ => u2_ne h6) rfl rfl (fun c h30 _ => u2_ne h30) rfl (u2_ie (by decide)) ?_ ?_
  · rw [u2_eq]; exact bd_lit (by decide)
  · refine ⟨by rw [u2_eq, u2_eq], fun i hi => ?_⟩
    rw [u2_eq] at hi
    exact absurd hi (Nat.not_lt_zero i)
theorem sim_feed (hx : OKX A) (hr : R2 A B) {a0 : Int32} : SR (sp_X8_feed A a0) (sp_X9_feed B a0) := by
  have t := hr.2.2.1
  have hs : bd (A.2.1 6 0) 251 := hx.2.2.2.2.2.2
  have hl := bd_lt hs
  unfold sp_X8_feed sp_X9_feed
  rw [← w98]
  by_cases c1 : sp_X9_within a0 0 255 = true
  · rw [if_pos c1, if_pos c1, ← t.1]
    by_cases c2 : A.2.1 6 0 = 250
    · rw [if_neg (by rw [c2]; decide), if_pos c2]; exact sr_no hx hr (by decide)
    · have h8 := ne250 hs c2
      have hl2 := bd_lt h8
      have c3 : A.2.1 6 0 < 250 := by rw [bd_eq h8]; exact nI_lt (b := 250) hl2 (by omega)
      rw [if_pos c3, if_neg c2]
      have e1 : A.2.1 6 0 + 1 = nI (tn (A.2.1 6 0) + 1) := (congrArg (fun z => z + 1) (bd_eq h8)).trans (nI_1 _)
      refine sr_tp hx hr rfl rfl (fun c h6 h7 => (u2_ne h6).trans (u2_ne h7)) rfl rfl (fun c h30 h31 => (u2_ne h31).trans (u2_ne h30)) rfl ((congrFun (u2_ne (by decide)) 5).trans (u2_ie (by decide))) ?_ ?_
      · rw [u2_eq, e1]; exact bd_nI (by omega) (by omega)
      · refine ⟨?_, fun i hi => ?_⟩
        · rw [u2_eq, u2_ne (by decide), u2_eq]
        · rw [u2_eq, e1, tn_nI (by omega)] at hi
          rw [u2_ne (by decide)]
          by_cases e : i = tn (A.2.1 6 0)
          · rw [e, u2_eq, u2_eq]
          · rw [u2_ie e, u2_ie e, u2_ne (by decide)]
            exact t.2 i (by omega)
  · rw [if_neg c1, if_neg c1]; exact sr_no hx hr (by decide)
end Sets
