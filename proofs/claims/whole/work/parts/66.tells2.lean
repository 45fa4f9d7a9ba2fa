section Tells2
variable {A B : MT}
theorem sim_having (hx : OKX A) (hr : R2 A B) {a0 : Int32} : SR (sp_X8_having A a0) (sp_X9_having B a0) := by
  have h := hr.1
  have ok := hx.1
  unfold sp_X8_having sp_X9_having
  rw [e_what]
  by_cases c1 : sp_X9_within a0 0 2 = true
  · rw [if_pos c1, if_pos c1, e_having h ok (wi5_bd (n := 2) c1 rfl (by omega))]
    (repeat' split) <;> exact sr_val hx hr rfl
  · rw [if_neg c1, if_neg c1]; exact sr_no hx hr (by decide)
theorem sim_due (hx : OKX A) (hr : R2 A B) {a0 : Int32} : SR (sp_X8_due A a0) (sp_X9_due B a0) := by
  have h := hr.1
  have ok := hx.1
  unfold sp_X8_due sp_X9_due
  rw [e_what]
  by_cases c1 : sp_X9_within a0 0 1 = true
  · rw [if_pos c1, if_pos c1, ← e_last h (a := a0)]
    have g := wi5_bd (n := 1) c1 rfl (by omega)
    have hl := bd_lt g
    have e := bd_eq g
    have f1 := e_first h ok _ (Nat.le_refl _)
    have f2 := e_lastN ok _ (Nat.le_refl _)
    have e1 : itN (tn (A.1 0 1 0)) (st_X5_firstDue_4 A 0) (-1) = sp_X5_firstDue A 0 := rfl
    have e2 : itN (tn (A.1 0 1 0)) (st_X9_firstDue_6 B) 1000 = sp_X9_firstDue B := by unfold sp_X9_firstDue; rw [h.pc]
    have e3 : itN (tn (A.1 0 1 0)) (st_X5_lastDue_4 A 0) (-1) = sp_X5_lastDue A 0 := rfl
    rw [e1, e2] at f1
    rw [e3] at f2
    generalize tn a0 = k at e hl
    subst e
    rcases (show k = 0 ∨ k = 1 by omega) with rfl | rfl
    · rw [if_pos (by decide), if_neg (by decide)]
      rcases f2 with ⟨g1, g2⟩ | ⟨g1, j, hj, g2⟩
      · rw [if_pos g1]
        rcases f1 with ⟨q1, _, _⟩ | ⟨_, _, i, hi, q3⟩
        · exact sr_val hx hr (q1.trans g1.symm)
        · exact absurd (g2 i hi) q3
      · rw [if_neg (dnm1 g1.1)]
        rcases f1 with ⟨_, _, q3⟩ | ⟨q1, _, _⟩
        · exact absurd (q3 j hj) g2
        · exact sr_val hx hr q1
    · rw [if_neg (by decide), if_pos (by decide)]
      exact sr_val hx hr rfl
  · rw [if_neg c1, if_neg c1]; exact sr_no hx hr (by decide)
theorem sim_judge (hx : OKX A) (hr : R2 A B) {a0 a1 : Int32} : SR (sp_X8_judge A a0 a1) (sp_X9_judge B a0 a1) := by
  have h := hr.1
  have ok := hx.1
  unfold sp_X8_judge sp_X9_judge
  rw [← w98]
  by_cases c1 : sp_X9_within a1 0 40 = true
  · rw [if_pos c1]
    have hn := wi5_bd (n := 40) c1 rfl (by omega)
    by_cases c0 : sp_X9_isShelf a0 = true
    · have ha := isSh5 c0
      have e := e_noTold hx hr (n := a1) ha c0
      rw [if_pos c0, if_pos c1]
      by_cases c2 : sp_X8_rowRefusal A a0 a1 = 0
      · rw [if_pos c2, if_pos (by rw [← e]; exact told_0.mpr c2)]
        refine sr_val hx hr ?_
        unfold sp_X5_firstWrong sp_X9_wrong
        have hnl := bd_lt hn
        refine fndN_congr _ _ (fun k _ hk => ?_)
        have e1 : sp_X9_toldAt B a0 (nI k) = A.2.2 (tn a0) (tn (nI k * 1)) := by
          unfold sp_X9_toldAt
          rw [ix40 ha (by omega), row_el hx hr c0 c2 hn k (by omega), Int32.mul_one, tn_nI (by omega)]
        unfold ps_X5_firstWrong_3 ps_X9_wrong_2
        rw [e1, e_isTold h ok.1]
        exact ⟨rfl, rfl⟩
      · rw [if_neg c2, if_neg (by rw [← e]; exact fun z => c2 (told_0.mp z))]
        exact sr_told hx hr e
    · rw [if_neg c0]
      have e : sp_X8_rowRefusal A a0 a1 = -2 := by unfold sp_X8_rowRefusal; rw [e_shelf, if_neg c0]
      rw [e, if_neg (by decide)]
      exact sr_no hx hr (by decide)
  · rw [if_neg c1]
    by_cases c0 : sp_X9_isShelf a0 = true
    · rw [if_pos c0, if_neg c1]; exact sr_no hx hr (by decide)
    · rw [if_neg c0]; exact sr_no hx hr (by decide)
theorem sim_holds (hx : OKX A) (hr : R2 A B) {a0 : Int32} : SR (sp_X8_holds A a0) (sp_X9_holds B a0) := by
  unfold sp_X8_holds sp_X9_holds
  rw [e_shelf]
  by_cases c0 : sp_X9_isShelf a0 = true
  · have ht := bd_lt (isSh5 c0)
    obtain ⟨_, g2, g3⟩ := hr.2.1 _ ht
    rw [if_pos c0, if_pos c0]
    unfold sp_X4_isEmpty
    by_cases c : A.2.1 9 (tn a0) = 0
    · rw [g2 c, if_pos c, if_pos c]
      by_cases c2 : A.2.1 10 (tn a0) = -1
      · rw [if_pos c2, if_pos c2, if_pos rfl]; exact sr_val hx hr rfl
      · rw [if_neg c2, if_neg c2, if_neg (by decide)]; exact sr_val hx hr rfl
    · rw [if_neg c, if_neg c, if_neg (by decide), (g3 c).1]; exact sr_val hx hr rfl
  · rw [if_neg c0, if_neg c0]; exact sr_val hx hr rfl
theorem sim_element (hx : OKX A) (hr : R2 A B) {a0 a1 : Int32} : SR (sp_X8_element A a0 a1) (sp_X9_element B a0 a1) := by
  unfold sp_X8_element sp_X9_element
  rw [e_shelf]
  by_cases c0 : sp_X9_isShelf a0 = true
  · have ha := isSh5 c0
    have ht := bd_lt ha
    obtain ⟨_, g2, g3⟩ := hr.2.1 _ ht
    obtain ⟨k1, _, _, _⟩ := hx.2.2.2.2.2.1 _ ht
    rw [if_pos c0, if_pos c0]
    by_cases c : A.2.1 9 (tn a0) = 0
    · rw [if_pos c, if_neg (fun z => (is_row hx hr ha).mp z c)]; exact sr_val hx hr rfl
    · rw [if_neg c, if_pos ((is_row hx hr ha).mpr c), (g3 c).2.1]
      unfold sp_X3_hasElement
      rw [← w98]
      by_cases c2 : sp_X9_within a1 0 (A.2.1 12 (tn a0) - 1) = true
      · have b := bd_of (n := 40) k1 (within_iff.mp (w98 ▸ c2)).1 (within_iff.mp (w98 ▸ c2)).2
        have hl := bd_lt b.1
        rw [if_pos c2, if_pos c2]
        refine sr_val hx hr ?_
        have e : tn ((40 * a0) + a1) = 40 * tn a0 + tn a1 := by
          conv => lhs; rw [bd_eq b.1]
          exact ix40 ha hl
        rw [e, (g3 c).2.2 _ b.2]
      · rw [if_neg c2, if_neg c2]; exact sr_val hx hr rfl
  · rw [if_neg c0, if_neg c0]; exact sr_val hx hr rfl
theorem under_tab : ∀ k, k < 6 → ∀ a, a < 6 → sp_X9_isUnder (nI k) (nI a) = (if nI a = 0 then true else if nI a = nI k then true else if nI a = tKA k then true else false) := by decide +kernel
theorem sim_says (hx : OKX A) (hr : R2 A B) {a0 a1 : Int32} : SR (sp_X8_says A a0 a1) (sp_X9_says B a0 a1) := by
  have h := hr.1
  have ok := hx.1
  unfold sp_X8_says sp_X9_says
  rw [e_shelf, e_kind]
  by_cases c0 : sp_X9_isShelf a0 = true
  · rw [if_pos c0, if_pos c0]
    by_cases c1 : sp_X9_within a1 0 5 = true
    · rw [if_pos c1, if_pos c1]
      have hk := wi5_bd (n := 5) c1 rfl (by omega)
      have ha := isSh5 c0
      have ht := bd_lt ha
      obtain ⟨_, g2, g3⟩ := hr.2.1 _ ht
      obtain ⟨_, _, _, k4⟩ := hx.2.2.2.2.2.1 _ ht
      by_cases c : A.2.1 9 (tn a0) = 0
      · rw [if_pos c, if_neg (fun z => (is_row hx hr ha).mp z c), g2 c]
        by_cases c2 : A.2.1 10 (tn a0) = -1
        · rw [if_pos c2, if_neg (show ¬ (0 : Int32) ≤ -1 by decide)]
          have n : ¬ sp_X5_hasPerson A 0 (A.2.1 10 (tn a0)) = true := by
            rw [c2]
            unfold sp_X5_hasPerson
            intro z
            exact absurd (within_iff.mp z).1 (by decide)
          rw [if_neg n]; exact sr_no hx hr (by decide)
        · obtain ⟨_, e2, e3⟩ := k4.resolve_left c2
          have hl := bd_lt e2
          have ep := bd_eq e2
          have es : (10 : Int32) + A.2.1 10 (tn a0) - 10 = A.2.1 10 (tn a0) := by rw [Int32.add_comm, Int32.add_sub_cancel]
          have e0 : (0 : Int32) ≤ 10 + A.2.1 10 (tn a0) := by
            rw [ep, show (10 : Int32) + nI (tn (A.2.1 10 (tn a0))) = nI (10 + tn (A.2.1 10 (tn a0))) from nI_add 10 _]
            exact nI_pos' (by omega)
          have hp : sp_X5_hasPerson A 0 (A.2.1 10 (tn a0)) = true := by
            have hpl := bd_lt ok.2.1
            unfold sp_X5_hasPerson
            refine within_iff.mpr ⟨Int32.not_lt.mp e2.1, ?_⟩
            rw [bd_eq ok.2.1]
            obtain ⟨m, hm⟩ : ∃ m, tn (A.1 0 1 0) = m + 1 := ⟨tn (A.1 0 1 0) - 1, by omega⟩
            rw [hm, nI_pred, ep]
            exact nI_le (by omega) (by omega)
          rw [if_neg c2, if_pos e0, if_pos hp, es]
          generalize A.2.1 10 (tn a0) = p at e3 hl
          have hk9 := h.pe e3 (f := 9) (by omega) (by omega)
          have hk10 := h.pe e3 (f := 10) (by omega) (by omega)
          have hkd := ok.2.2.2.2.2.2.1 (tn p) hl
          have eu : sp_X2_isOf A 0 (tn p) a1 = sp_X9_isUnder (B.1 5 9 (tn p)) a1 := by
            rw [← hk9]
            have t := under_tab _ (bd_lt hkd) _ (bd_lt hk)
            rw [← bd_eq hkd, ← bd_eq hk] at t
            rw [t]; rfl
          rw [eu]
          by_cases c3 : sp_X9_isUnder (B.1 5 9 (tn p)) a1 = true
          · rw [if_pos c3, if_pos c3]
            by_cases c4 : a1 = 0
            · rw [if_pos c4, if_pos c4]; exact sr_val hx hr hk10
            · rw [if_neg c4, if_neg c4]; exact sr_val hx hr (e_slow h e3).symm
          · rw [if_neg c3, if_neg c3]; exact sr_no hx hr (by decide)
      · rw [if_neg c, if_pos ((is_row hx hr ha).mpr c)]; exact sr_no hx hr (by decide)
    · rw [if_neg c1, if_neg c1]; exact sr_no hx hr (by decide)
  · rw [if_neg c0, if_neg c0]; exact sr_no hx hr (by decide)
end Tells2
