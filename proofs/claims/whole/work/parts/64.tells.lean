/-! ===== calls that tell, and change nothing ===== -/
section Tells
variable {A B : MT}
theorem sim_lands (hx : OKX A) (hr : R2 A B) {a0 a1 a2 : Int32} : SR (sp_X8_lands A a0 a1 a2) (sp_X9_lands B a0 a1 a2) := by
  have h := hr.1
  have ok := hx.1
  unfold sp_X8_lands sp_X9_lands
  rw [e_throw h]
  by_cases c1 : sp_X9_isThrow B a0 a1 a2 = true
  · rw [if_pos c1, if_pos c1]
    have g := thr_in h ok.1 c1
    exact sr_val hx hr (e_land h g.1 g.2)
  · rw [if_neg c1, if_neg c1]; exact sr_no hx hr (by decide)

theorem sim_caught (hx : OKX A) (hr : R2 A B) {a0 a1 a2 : Int32} : SR (sp_X8_caught A a0 a1 a2) (sp_X9_caught B a0 a1 a2) := by
  have h := hr.1
  have ok := hx.1
  unfold sp_X8_caught sp_X9_caught
  rw [e_throw h]
  by_cases c1 : sp_X9_isThrow B a0 a1 a2 = true
  · rw [if_pos c1, if_pos c1]
    have g := thr_in h ok.1 c1
    exact sr_val hx hr (e_caught h ok g.1 g.2)
  · rw [if_neg c1, if_neg c1]; exact sr_no hx hr (by decide)

theorem sim_slow (hx : OKX A) (hr : R2 A B) {a0 a1 : Int32} : SR (sp_X8_slow A a0 a1) (sp_X9_slow B a0 a1) := by
  have h := hr.1
  have ok := hx.1
  unfold sp_X8_slow sp_X9_slow
  by_cases b1 : sp_X9_isOne B a0 = true
  · rw [if_pos b1]
    by_cases b2 : sp_X9_isWindow B a1 = true
    · rw [if_pos b2, if_pos (show sp_X8_isCouple A a0 a1 = true by rw [e_couple h]; exact ⟨b1, b2⟩)]
      have p := one_in h hx b1
      have w := win_in h hx b2
      exact sr_val hx hr (e_slowOf h p.1 w.1)
    · rw [if_neg b2, if_neg (show ¬ sp_X8_isCouple A a0 a1 = true by rw [e_couple h]; exact fun z => b2 z.2)]; exact sr_no hx hr (by decide)
  · rw [if_neg b1, if_neg (show ¬ sp_X8_isCouple A a0 a1 = true by rw [e_couple h]; exact fun z => b1 z.1)]; exact sr_no hx hr (by decide)

theorem sim_comes (hx : OKX A) (hr : R2 A B) {a0 a1 : Int32} : SR (sp_X8_comes A a0 a1) (sp_X9_comes B a0 a1) := by
  have h := hr.1
  have ok := hx.1
  unfold sp_X8_comes sp_X9_comes
  by_cases b1 : sp_X9_isOne B a0 = true
  · rw [if_pos b1]
    by_cases b2 : sp_X9_isWindow B a1 = true
    · rw [if_pos b2, if_pos (show sp_X8_isCouple A a0 a1 = true by rw [e_couple h]; exact ⟨b1, b2⟩)]
      have p := one_in h hx b1
      have w := win_in h hx b2
      rw [e_due h ok p.1 w.1]
      by_cases c : sp_X9_isComing B a0 a1 = true
      · rw [if_pos c, if_pos c, if_neg (day_pos h ok p.1 w.1)]; exact sr_val hx hr rfl
      · rw [if_neg c, if_neg c, if_pos rfl]; exact sr_val hx hr rfl
    · rw [if_neg b2, if_neg (show ¬ sp_X8_isCouple A a0 a1 = true by rw [e_couple h]; exact fun z => b2 z.2)]; exact sr_no hx hr (by decide)
  · rw [if_neg b1, if_neg (show ¬ sp_X8_isCouple A a0 a1 = true by rw [e_couple h]; exact fun z => b1 z.1)]; exact sr_no hx hr (by decide)

theorem sim_hit (hx : OKX A) (hr : R2 A B) {a0 : Int32} : SR (sp_X8_hit A a0) (sp_X9_hit B a0) := by
  have h := hr.1
  have ok := hx.1
  unfold sp_X8_hit sp_X9_hit
  rw [e_win h]
  by_cases c1 : sp_X9_isWindow B a0 = true
  · rw [if_pos c1, if_pos c1]
    have w := win_in h hx c1
    exact sr_val hx hr (e_hit h ok w.1)
  · rw [if_neg c1, if_neg c1]; exact sr_no hx hr (by decide)

theorem sim_fond (hx : OKX A) (hr : R2 A B) {a0 a1 : Int32} : SR (sp_X8_fond A a0 a1) (sp_X9_fond B a0 a1) := by
  have h := hr.1
  have ok := hx.1
  unfold sp_X8_fond sp_X9_fond
  by_cases b1 : sp_X9_isWindow B a0 = true
  · rw [if_pos b1]
    by_cases b2 : sp_X9_isOne B a1 = true
    · rw [if_pos b2, if_pos (show sp_X8_isCouple A a1 a0 = true by rw [e_couple h]; exact ⟨b2, b1⟩)]
      have p := one_in h hx b2
      have w := win_in h hx b1
      exact sr_val hx hr (e_fond h p.1 w.1)
    · rw [if_neg b2, if_neg (show ¬ sp_X8_isCouple A a1 a0 = true by rw [e_couple h]; exact fun z => b2 z.1)]; exact sr_no hx hr (by decide)
  · rw [if_neg b1, if_neg (show ¬ sp_X8_isCouple A a1 a0 = true by rw [e_couple h]; exact fun z => b1 z.2)]; exact sr_no hx hr (by decide)

theorem sim_queue (hx : OKX A) (hr : R2 A B) {a0 a1 : Int32} : SR (sp_X8_queue A a0 a1) (sp_X9_queue B a0 a1) := by
  have h := hr.1
  have ok := hx.1
  unfold sp_X8_queue sp_X9_queue
  rw [e_win h, w98]
  by_cases c1 : sp_X9_isWindow B a0 = true
  · rw [if_pos c1, if_pos c1]
    have w := win_in h hx c1
    by_cases c2 : sp_X8_within a1 0 999 = true
    · rw [if_pos c2, if_pos c2]
      exact sr_val hx hr (e_queue h)
    · rw [if_neg c2, if_neg c2]; exact sr_no hx hr (by decide)
  · rw [if_neg c1, if_neg c1]; exact sr_no hx hr (by decide)

theorem sim_rival (hx : OKX A) (hr : R2 A B) {a0 a1 a2 a3 : Int32} : SR (sp_X8_rival A a0 a1 a2 a3) (sp_X9_rival B a0 a1 a2 a3) := by
  have h := hr.1
  have ok := hx.1
  unfold sp_X8_rival sp_X9_rival
  rw [e_one h, e_throw h]
  by_cases c1 : sp_X9_isOne B a0 = true
  · rw [if_pos c1, if_pos c1]
    have p := one_in h hx c1
    by_cases c2 : sp_X9_isThrow B a1 a2 a3 = true
    · rw [if_pos c2, if_pos c2]
      have g := thr_in h ok.1 c2
      rw [e_catch h ok land_c, e_land h g.1 g.2]
      exact sr_val hx hr rfl
    · rw [if_neg c2, if_neg c2]; exact sr_no hx hr (by decide)
  · rw [if_neg c1, if_neg c1]; exact sr_no hx hr (by decide)

theorem sim_lentFor (hx : OKX A) (hr : R2 A B) {a0 a1 : Int32} : SR (sp_X8_lentFor A a0 a1) (sp_X9_lentFor B a0 a1) := by
  have h := hr.1
  have ok := hx.1
  unfold sp_X8_lentFor sp_X9_lentFor
  by_cases b1 : sp_X9_isOne B a0 = true
  · rw [if_pos b1]
    by_cases b2 : sp_X9_isWindow B a1 = true
    · rw [if_pos b2, if_pos (show sp_X8_isCouple A a0 a1 = true by rw [e_couple h]; exact ⟨b1, b2⟩)]
      have p := one_in h hx b1
      have w := win_in h hx b2
      rw [e_back h ok p.1 w.1]
      (repeat' split) <;> exact sr_val hx hr rfl
    · rw [if_neg b2, if_neg (show ¬ sp_X8_isCouple A a0 a1 = true by rw [e_couple h]; exact fun z => b2 z.2)]; exact sr_no hx hr (by decide)
  · rw [if_neg b1, if_neg (show ¬ sp_X8_isCouple A a0 a1 = true by rw [e_couple h]; exact fun z => b1 z.1)]; exact sr_no hx hr (by decide)

theorem sim_catches (hx : OKX A) (hr : R2 A B) {a0 : Int32} : SR (sp_X8_catches A a0) (sp_X9_catches B a0) := by
  have h := hr.1
  have ok := hx.1
  unfold sp_X8_catches sp_X9_catches
  rw [e_cell h]
  by_cases c1 : sp_X9_isCell B a0 = true
  · rw [if_pos c1, if_pos c1]
    exact sr_val hx hr (e_catch h ok (Or.inr (by rw [e_cell h]; exact c1)))
  · rw [if_neg c1, if_neg c1]; exact sr_no hx hr (by decide)

theorem sim_between (hx : OKX A) (hr : R2 A B) {a0 a1 : Int32} : SR (sp_X8_between A a0 a1) (sp_X9_between B a0 a1) := by
  have h := hr.1
  have ok := hx.1
  unfold sp_X8_between sp_X9_between
  rw [e_win h, e_win h]
  by_cases c1 : sp_X9_isWindow B a0 = true
  · rw [if_pos c1, if_pos c1]
    have w := win_in h hx c1
    by_cases c2 : sp_X9_isWindow B a1 = true
    · rw [if_pos c2, if_pos c2]
      have w2 := win_in h hx c2
      rw [e_open h w.1, e_open h w2.1]
      exact sr_val hx hr rfl
    · rw [if_neg c2, if_neg c2]; exact sr_no hx hr (by decide)
  · rw [if_neg c1, if_neg c1]; exact sr_no hx hr (by decide)

theorem sim_gaps (hx : OKX A) (hr : R2 A B) : SR (sp_X8_gaps A) (sp_X9_gaps B) := by
  have h := hr.1
  have ok := hx.1
  unfold sp_X8_gaps sp_X9_gaps
  exact sr_val hx hr (e_gaps h ok)

theorem sim_off (hx : OKX A) (hr : R2 A B) {a0 : Int32} : SR (sp_X8_off A a0) (sp_X9_off B a0) := by
  have h := hr.1
  have ok := hx.1
  unfold sp_X8_off sp_X9_off
  rw [e_win h]
  by_cases c1 : sp_X9_isWindow B a0 = true
  · rw [if_pos c1, if_pos c1]
    have w := win_in h hx c1
    exact sr_val hx hr (e_off h w.1)
  · rw [if_neg c1, if_neg c1]; exact sr_no hx hr (by decide)

theorem sim_reached (hx : OKX A) (hr : R2 A B) {a0 : Int32} : SR (sp_X8_reached A a0) (sp_X9_reached B a0) := by
  have h := hr.1
  have ok := hx.1
  unfold sp_X8_reached sp_X9_reached
  rw [e_cell h]
  by_cases c1 : sp_X9_isCell B a0 = true
  · rw [if_pos c1, if_pos c1]
    exact sr_val hx hr (e_reachd h ok)
  · rw [if_neg c1, if_neg c1]; exact sr_no hx hr (by decide)

theorem sim_late (hx : OKX A) (hr : R2 A B) {a0 : Int32} : SR (sp_X8_late A a0) (sp_X9_late B a0) := by
  have h := hr.1
  have ok := hx.1
  unfold sp_X8_late sp_X9_late
  rw [e_one h]
  by_cases c1 : sp_X9_isOne B a0 = true
  · rw [if_pos c1, if_pos c1]
    have p := one_in h hx c1
    exact sr_val hx hr (e_late h ok p.1 rfl)
  · rw [if_neg c1, if_neg c1]; exact sr_no hx hr (by decide)

theorem sim_ofKind (hx : OKX A) (hr : R2 A B) {a0 : Int32} : SR (sp_X8_ofKind A a0) (sp_X9_ofKind B a0) := by
  have h := hr.1
  have ok := hx.1
  unfold sp_X8_ofKind sp_X9_ofKind
  show SR (if sp_X9_within a0 0 5 = true then _ else _) _
  by_cases c1 : sp_X9_within a0 0 5 = true
  · rw [if_pos c1, if_pos c1]
    exact sr_val hx hr (e_kindN h)
  · rw [if_neg c1, if_neg c1]; exact sr_no hx hr (by decide)

theorem sim_fondest (hx : OKX A) (hr : R2 A B) {a0 : Int32} : SR (sp_X8_fondest A a0) (sp_X9_fondest B a0) := by
  have h := hr.1
  have ok := hx.1
  unfold sp_X8_fondest sp_X9_fondest
  rw [e_win h]
  by_cases c1 : sp_X9_isWindow B a0 = true
  · rw [if_pos c1, if_pos c1]
    have w := win_in h hx c1
    exact sr_val hx hr (e_fondest h ok w.1)
  · rw [if_neg c1, if_neg c1]; exact sr_no hx hr (by decide)

theorem sim_admirer (hx : OKX A) (hr : R2 A B) {a0 : Int32} : SR (sp_X8_admirer A a0) (sp_X9_admirer B a0) := by
  have h := hr.1
  have ok := hx.1
  unfold sp_X8_admirer sp_X9_admirer
  rw [e_one h]
  by_cases c1 : sp_X9_isOne B a0 = true
  · rw [if_pos c1, if_pos c1]
    have p := one_in h hx c1
    rw [p.2]
    exact sr_val hx hr (e_admirer h ok p.1)
  · rw [if_neg c1, if_neg c1]; exact sr_no hx hr (by decide)

theorem sim_personOf (hx : OKX A) (hr : R2 A B) {a0 a1 : Int32} : SR (sp_X8_personOf A a0 a1) (sp_X9_personOf B a0 a1) := by
  have h := hr.1
  have ok := hx.1
  unfold sp_X8_personOf sp_X9_personOf
  rw [e_one h]
  by_cases c1 : sp_X9_isOne B a0 = true
  · rw [if_pos c1, if_pos c1]
    have p := one_in h hx c1
    have e9 := h.pe p.1 (f := 9) (by omega) (by omega)
    have e10 := h.pe p.1 (f := 10) (by omega) (by omega)
    have e11 := h.pe p.1 (f := 11) (by omega) (by omega)
    have e12 := h.pe p.1 (f := 12) (by omega) (by omega)
    have e13 := h.pe p.1 (f := 13) (by omega) (by omega)
    have er : sp_X2_reach A 0 (tn a0) = sp_X9_reach B a0 := by rw [← e_reach h ok p.1, ← p.2]
    by_cases c2 : sp_X8_isWhat a1 5 = true
    · rw [if_pos c2]
      have g := wi_bd (n := 5) c2 rfl (by omega)
      rcases k6 g with q | q | q | q | q | q <;> subst q
      · exact sr_val hx hr e9
      · exact sr_val hx hr e10
      · exact sr_val hx hr e11
      · exact sr_val hx hr e12
      · exact sr_val hx hr e13
      · exact sr_val hx hr er
    · rw [if_neg c2]
      have n : ∀ k, k < 6 → ¬ a1 = nI k := fun k hk z => c2 (by rw [z]; exact within_iff.mpr ⟨nI_pos' (by omega), nI_le (b := 5) (by omega) (by omega)⟩)
      rw [if_neg (show ¬ a1 = 0 from n 0 (by omega)), if_neg (show ¬ a1 = 1 from n 1 (by omega)), if_neg (show ¬ a1 = 2 from n 2 (by omega)), if_neg (show ¬ a1 = 3 from n 3 (by omega)), if_neg (show ¬ a1 = 4 from n 4 (by omega)), if_neg (show ¬ a1 = 5 from n 5 (by omega))]
      exact sr_no hx hr (by decide)
  · rw [if_neg c1, if_neg c1]; exact sr_no hx hr (by decide)

theorem sim_windowOf (hx : OKX A) (hr : R2 A B) {a0 a1 : Int32} : SR (sp_X8_windowOf A a0 a1) (sp_X9_windowOf B a0 a1) := by
  have h := hr.1
  have ok := hx.1
  unfold sp_X8_windowOf sp_X9_windowOf
  rw [e_win h, e_what]
  by_cases c1 : sp_X9_isWindow B a0 = true
  · rw [if_pos c1, if_pos c1]
    have w := win_in h hx c1
    by_cases c2 : sp_X9_within a1 0 2 = true
    · rw [if_pos c2, if_pos c2]
      rw [h.wi w.1 (f := 6) (by omega) (by omega), h.wi w.1 (f := 7) (by omega) (by omega), h.wi w.1 (f := 8) (by omega) (by omega)]
      (repeat' split) <;> exact sr_val hx hr rfl
    · rw [if_neg c2, if_neg c2]; exact sr_no hx hr (by decide)
  · rw [if_neg c1, if_neg c1]; exact sr_no hx hr (by decide)

theorem sim_throwsFor (hx : OKX A) (hr : R2 A B) {a0 a1 a2 : Int32} : SR (sp_X8_throwsFor A a0 a1 a2) (sp_X9_throwsFor B a0 a1 a2) := by
  have h := hr.1
  have ok := hx.1
  unfold sp_X8_throwsFor sp_X9_throwsFor
  by_cases b1 : sp_X9_isOne B a0 = true
  · rw [if_pos b1]
    by_cases b2 : sp_X9_isWindow B a1 = true
    · rw [if_pos b2, if_pos (show sp_X8_isCouple A a0 a1 = true by rw [e_couple h]; exact ⟨b1, b2⟩)]
      have p := one_in h hx b1
      have w := win_in h hx b2
      by_cases b3 : sp_X8_within a2 0 2 = true
      · rw [if_pos (show sp_X8_isWhat a2 2 = true from b3), if_pos (show sp_X9_within a2 0 2 = true from b3)]
        obtain ⟨e1, e2⟩ := e_throws h ok (p := a0) (a := a2) w.1
        rw [e1]
        by_cases b4 : a2 = 0
        · rw [if_pos b4, if_pos b4]; exact sr_val hx hr rfl
        · rw [if_neg b4, if_neg b4]
          rcases e2 with ⟨f1, f2⟩ | ⟨j, hj, f1, f2⟩
          · rw [f1, f2, if_pos rfl, if_pos rfl]; exact sr_val hx hr rfl
          · obtain ⟨t1, t2, t3⟩ := thr_tab j hj
            rw [f1, f2, if_neg t3, if_neg (nI_nm1 (by omega))]
            by_cases b5 : a2 = 1
            · rw [if_pos b5, if_pos b5]; exact sr_val hx hr t1
            · rw [if_neg b5, if_neg b5]; exact sr_val hx hr t2
      · rw [if_neg (show ¬ sp_X8_isWhat a2 2 = true from b3), if_neg (show ¬ sp_X9_within a2 0 2 = true from b3)]; exact sr_no hx hr (by decide)
    · rw [if_neg b2, if_neg (show ¬ sp_X8_isCouple A a0 a1 = true by rw [e_couple h]; exact fun z => b2 z.2)]; exact sr_no hx hr (by decide)
  · rw [if_neg b1, if_neg (show ¬ sp_X8_isCouple A a0 a1 = true by rw [e_couple h]; exact fun z => b1 z.1)]; exact sr_no hx hr (by decide)

theorem sim_best (hx : OKX A) (hr : R2 A B) {a0 : Int32} : SR (sp_X8_best A a0) (sp_X9_best B a0) := by
  have h := hr.1
  have ok := hx.1
  unfold sp_X8_best sp_X9_best
  show SR (if sp_X9_within a0 0 1 = true then _ else _) _
  by_cases c1 : sp_X9_within a0 0 1 = true
  · rw [if_pos c1, if_pos c1, h.wc]
    by_cases c2 : B.1 5 0 0 = 0
    · rw [if_pos c2, if_pos c2]; exact sr_no hx hr (by decide)
    · rw [if_neg c2, if_neg c2]
      have hw := ok.1
      have h0 : 0 < tn (A.1 0 0 0) := by
        rcases Nat.eq_zero_or_pos (tn (A.1 0 0 0)) with z | z
        · exact absurd (by rw [← h.wc, bd_eq hw, z]; rfl) c2
        · exact z
      have hl := bd_lt hw
      obtain ⟨j, hj, e1, e2⟩ := e_best h ok (a := a0) (tn (A.1 0 0 0) - 1) (by omega)
      have e3 : sp_X5_bestWindow A 0 = nI j := by
        unfold sp_X5_bestWindow
        rw [show tn (A.1 0 0 0) - 1 + 1 = tn (A.1 0 0 0) by omega] at e2
        rw [e2]
      rw [← h.wc, e1, e3, e_hit h ok (by rw [tn_nI (by omega)]; omega)]
      split
      · exact sr_val hx hr rfl
      · exact sr_val hx hr rfl
  · rw [if_neg c1, if_neg c1]; exact sr_no hx hr (by decide)

end Tells
