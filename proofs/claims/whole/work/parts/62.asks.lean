/-! ===== what is asked of a street as it stands ===== -/
section Asks
variable {A B : MT} {s : Nat}
theorem e_slow (h : AG (A.1 s) (B.1 5)) {p : Int32} {f : Int32} (hp : tn p < tn (A.1 s 1 0)) : sp_X9_slowTo B p f = sp_X8_slowness (A.1 s 9 (tn p)) (A.1 s 10 (tn p)) f := by
  unfold sp_X9_slowTo sp_X8_slowness
  rw [h.pe hp (f := 9) (by omega) (by omega), h.pe hp (f := 10) (by omega) (by omega)]
theorem e_slowOf (h : AG (A.1 s) (B.1 5)) {p w : Int32} (hp : tn p < tn (A.1 s 1 0)) (hw : tn w < tn (A.1 s 0 0)) : sp_X5_slowOf A s p w = sp_X9_slowTo B p (B.1 5 7 (tn w)) := by
  rw [e_slow h hp, ← h.wi hw (f := 7) (by omega) (by omega)]
  rfl
theorem fl_le (ok : OKs A s) {w : Nat} (hw : w < tn (A.1 s 0 0)) : A.1 s 7 w ≤ 1 ↔ A.1 s 7 w = 1 := by
  have g := ok.2.2.2.2.2.2.2.2.1 w hw
  have e := bd_eq g.2.1
  have hl := bd_lt g.2.1
  have h1 := g.2.2.1
  generalize tn (A.1 s 7 w) = k at e hl h1
  rw [e]
  rcases (show k = 1 ∨ k = 2 ∨ k = 3 ∨ k = 4 ∨ k = 5 by omega) with rfl | rfl | rfl | rfl | rfl <;> decide
theorem horse_iff {p : Nat} : sp_X2_isHorse A s p = true ↔ A.1 s 9 p = 5 := by
  unfold sp_X2_isHorse
  split <;> simp_all
theorem e_back (h : AG (A.1 s) (B.1 5)) (ok : OKs A s) {p w : Int32} (hp : tn p < tn (A.1 s 1 0)) (hw : tn w < tn (A.1 s 0 0)) :
    sp_X5_dayBack A s p w = if 999 < ((B.1 5 3 1) + (sp_X9_slowTo B p (B.1 5 7 (tn w)))) then (-1) else if (B.1 5 9 (tn p)) = 5 then if (B.1 5 7 (tn w)) ≤ 1 then (B.1 5 3 1) + (sp_X9_slowTo B p (B.1 5 7 (tn w))) else (-1) else (B.1 5 3 1) + (sp_X9_slowTo B p (B.1 5 7 (tn w))) := by
  rw [← e_slowOf h hp hw, ← h.wy (i := 1) (by omega), ← h.pe hp (f := 9) (by omega) (by omega), ← h.wi hw (f := 7) (by omega) (by omega)]
  unfold sp_X5_dayBack
  have hf := fl_le ok hw
  by_cases c1 : A.1 s 9 (tn p) = 5
  · rw [if_pos (horse_iff.mpr c1), if_pos c1]
    by_cases c2 : A.1 s 7 (tn w) = 1
    · rw [if_pos c2, if_pos (hf.mpr c2)]
    · rw [if_neg c2, if_neg (fun z => c2 (hf.mp z)), ite_self]
  · rw [if_neg (fun z => c1 (horse_iff.mp z)), if_neg c1]
theorem e_due (h : AG (A.1 s) (B.1 5)) (ok : OKs A s) {p w : Int32} (hp : tn p < tn (A.1 s 1 0)) (hw : tn w < tn (A.1 s 0 0)) :
    sp_X5_dueDay A s p w = if sp_X9_isComing B p w = true then (B.1 5 3 1) + (sp_X9_slowTo B p (B.1 5 7 (tn w))) else -1 := by
  have hle := ok.2.2.2.2.2.1
  rw [h.wy (i := 2) (by omega)] at hle
  have hf := fl_le ok hw
  rw [h.wi hw (f := 7) (by omega) (by omega)] at hf
  unfold sp_X5_dueDay sp_X9_isComing
  rw [e_back h ok hp hw, h.wy (i := 2) (by omega)]
  generalize (B.1 5 3 1) + (sp_X9_slowTo B p (B.1 5 7 (tn w))) = d
  have hl : B.1 5 3 2 ≤ 999 := by
    rw [bd_eq hle]
    exact nI_le (a := tn (B.1 5 3 2)) (b := 999) (by have := bd_lt hle; omega) (by omega)
  have hm : ¬ B.1 5 3 2 < -1 := fun z => hle.1 (Int32.lt_trans z (by decide))
  by_cases c1 : 999 < d
  · rw [if_pos c1, if_neg hm, if_pos (Int32.lt_of_le_of_lt hl c1)]
    simp
  · rw [if_neg c1]
    by_cases c2 : B.1 5 9 (tn p) = 5
    · rw [if_pos c2]
      by_cases c3 : B.1 5 7 (tn w) ≤ 1
      · rw [if_pos c3]
        by_cases c4 : B.1 5 3 2 < d
        · simp [c4]
        · simp [c4, c2, hf.mp c3]
      · rw [if_neg c3, if_neg hm]
        have c3' : ¬ B.1 5 7 (tn w) = 1 := fun z => c3 (hf.mpr z)
        simp [c2, c3']
    · rw [if_neg c2]
      by_cases c4 : B.1 5 3 2 < d
      · simp [c4]
      · simp [c4, c2]
theorem dnm1 {d : Int32} (hd : ¬ d < 0) : ¬ d = -1 := fun q => hd (by rw [q]; decide)
/-- how long one takes is no negative number -/
theorem slow_pos (ok : OKs A s) {p : Nat} (hp : p < tn (A.1 s 1 0)) {f : Int32} (hf : bd f 6) : bd (sp_X8_slowness (A.1 s 9 p) (A.1 s 10 p) f) 1000 := by
  have hpl := bd_lt ok.2.1
  have hk := ok.2.2.2.2.2.2.1 p (by omega)
  have ha := (ok.2.2.2.2.2.2.2.2.2 p hp).1
  have := sl_tab _ (bd_lt hk) _ (bd_lt ha) _ (bd_lt hf)
  rw [← bd_eq hk, ← bd_eq ha, ← bd_eq hf] at this
  exact bd_mono (bd_lit this) (by omega)
theorem day_pos (h : AG (A.1 s) (B.1 5)) (ok : OKs A s) {p w : Int32} (hp : tn p < tn (A.1 s 1 0)) (hw : tn w < tn (A.1 s 0 0)) : ¬ (B.1 5 3 1) + (sp_X9_slowTo B p (B.1 5 7 (tn w))) = -1 := by
  rw [e_slow h hp, ← h.wi hw (f := 7) (by omega) (by omega), ← h.wy (i := 1) (by omega)]
  have hd := ok.2.2.2.2.1
  have hs := slow_pos ok hp (ok.2.2.2.2.2.2.2.2.1 _ hw).2.1
  rw [bd_eq hd, bd_eq hs, nI_add]
  have h1 := bd_lt hd
  have h2 := bd_lt hs
  exact nI_nm1 (by omega)
theorem e_late (h : AG (A.1 s) (B.1 5)) (ok : OKs A s) {p : Int32} (hp : tn p < tn (A.1 s 1 0)) {a : Int32} (ha : a = p) : sp_X5_windowsTooLate A s p = itN (tn (B.1 5 0 0)) (st_X9_late_19 B a) 0 := by
  subst ha
  have hwl := bd_lt ok.1
  unfold sp_X5_windowsTooLate
  rw [h.wc]
  refine itN_congr rfl (fun k x hk => ?_)
  rw [← h.wc] at hk
  have hkt : tn (nI k) < tn (A.1 s 0 0) := by rw [tn_nI (by omega)]; exact hk
  unfold st_X5_windowsTooLate_4 st_X9_late_19
  rw [e_due h ok hp hkt]
  by_cases c : sp_X9_isComing B a (nI k) = true
  · rw [if_pos c, if_pos c, if_neg (day_pos h ok hp hkt)]
  · rw [if_neg c, if_neg c, if_pos rfl]
theorem e_fond (h : AG (A.1 s) (B.1 5)) {p w : Int32} (hp : tn p < tn (A.1 s 1 0)) (hw : tn w < tn (A.1 s 0 0)) : sp_X5_fondness A s w p = sp_X9_fondness B w p := by
  unfold sp_X5_fondness sp_X9_fondness
  rw [h.wi hw (f := 8) (by omega) (by omega), h.pe hp (f := 10) (by omega) (by omega)]
theorem e_queue (h : AG (A.1 s) (B.1 5)) {w d : Int32} : sp_X5_queueLength A s w d = sp_X9_queueOf B w d := by
  unfold sp_X5_queueLength sp_X9_queueOf
  rw [h.pc]
  refine itN_congr rfl (fun k x hk => ?_)
  rw [← h.pc] at hk
  unfold st_X5_queueLength_5 st_X9_queueOf_5
  rw [h.pe hk (f := 12) (by omega) (by omega), h.pe hk (f := 13) (by omega) (by omega)]
theorem e_kindN (h : AG (A.1 s) (B.1 5)) {a : Int32} : sp_X5_countKind A s a = itN (tn (B.1 5 1 0)) (st_X9_ofKind_20 B a) 0 := by
  unfold sp_X5_countKind
  rw [h.pc]
  refine itN_congr rfl (fun k x hk => ?_)
  rw [← h.pc] at hk
  unfold st_X5_countKind_4 st_X9_ofKind_20
  rw [h.pe hk (f := 9) (by omega) (by omega)]
theorem e_last (h : AG (A.1 s) (B.1 5)) {a : Int32} : sp_X5_lastDue A s = itN (tn (B.1 5 1 0)) (st_X9_due_20 B a) (-1) := by
  unfold sp_X5_lastDue
  rw [h.pc]
  refine itN_congr rfl (fun k x hk => ?_)
  rw [← h.pc] at hk
  unfold st_X5_lastDue_4 st_X9_due_20
  rw [h.pe hk (f := 13) (by omega) (by omega)]
theorem e_off (h : AG (A.1 s) (B.1 5)) {w : Int32} (hw : tn w < tn (A.1 s 0 0)) : sp_X5_countLandings A s w (-1) = itN 30 (st_X9_off_19 B w) 0 := by
  unfold sp_X5_countLandings
  refine itN_congr rfl (fun k x hk => ?_)
  unfold st_X5_countLandings_5 st_X9_off_19
  rw [e_landT h hw hk]
theorem e_gaps (h : AG (A.1 s) (B.1 5)) (ok : OKs A s) : sp_X5_uncaughtCells A s = itN (tn (B.1 5 2 0)) (st_X9_gaps_4 B) 0 := by
  unfold sp_X5_uncaughtCells
  rw [← h.cl]
  refine itN_congr rfl (fun k x hk => ?_)
  unfold st_X5_uncaughtCells_4 st_X9_gaps_4
  rw [e_catch h ok (Or.inr (cell_of ok hk))]
theorem e_reachd (h : AG (A.1 s) (B.1 5)) (ok : OKs A s) {c : Int32} : sp_X5_peopleReaching A s c = itN (tn (B.1 5 1 0)) (st_X9_reached_19 B c) 0 := by
  unfold sp_X5_peopleReaching
  rw [← h.pc]
  refine itN_congr rfl (fun k x hk => ?_)
  unfold st_X5_peopleReaching_4 st_X9_reached_19
  rw [e_reach h ok hk, e_away h hk]
  by_cases c : sp_X2_reach A s k < iabs (A.1 s 11 k - c)
  · rw [if_pos c, if_neg (fun z => rc_iff.mp z c)]
  · rw [if_neg c, if_pos (rc_iff.mpr c)]
theorem e_fondest (h : AG (A.1 s) (B.1 5)) (ok : OKs A s) {w : Int32} (hw : tn w < tn (A.1 s 0 0)) : sp_X5_fondestPerson A s w = itN (tn (B.1 5 1 0)) (st_X9_fondest_26 B w) (-1) := by
  have hpl := bd_lt ok.2.1
  unfold sp_X5_fondestPerson
  rw [← h.pc]
  refine (itN_rel (fun _ x y => x = y ∧ (x = -1 ∨ tn x < tn (A.1 s 1 0))) _ ⟨rfl, Or.inl rfl⟩ (fun k x y hk hr => ?_)).1
  obtain ⟨rfl, hx⟩ := hr
  have hkt : tn (nI k) < tn (A.1 s 1 0) := by rw [tn_nI (by omega)]; exact hk
  unfold st_X5_fondestPerson_11 st_X9_fondest_26
  rw [← e_hit h ok hw]
  cases q : tb (sp_X5_peopleHit A s w) k
  · rw [if_pos ((bit_0 (by omega)).mpr q), if_neg (fun z => by rw [(bit_1 (by omega)).mp z] at q; cases q)]
    exact ⟨rfl, hx⟩
  · rw [if_neg (fun z => by rw [(bit_0 (by omega)).mp z] at q; cases q), if_pos ((bit_1 (by omega)).mpr q)]
    by_cases c : x = -1
    · rw [if_pos c, if_pos c]; exact ⟨rfl, Or.inr hkt⟩
    · rw [if_neg c, if_neg c, e_fond h hkt hw, e_fond h (hx.resolve_left c) hw]
      refine ⟨rfl, ?_⟩
      split
      · exact hx
      · exact Or.inr hkt
theorem tb_adm (ok : OKs A s) {p : Nat} (hp : p < tn (A.1 s 1 0)) {w : Nat} (hw : w < tn (A.1 s 0 0)) : tb (sp_X5_windowsOpenTo A s (sp_X5_cellsCaughtBy A s (nI p))) w = tb (sp_X5_peopleHit A s (nI w)) p := by
  have e : (tb (sp_X5_windowsOpenTo A s (sp_X5_cellsCaughtBy A s (nI p))) w = true) ↔ (tb (sp_X5_peopleHit A s (nI w)) p = true) := by
    rw [tb_wins ok, tb_hit ok, hit_iff ok hp]
    exact ⟨fun z => ⟨hp, z.2⟩, fun z => ⟨hw, z.2⟩⟩
  cases q1 : tb (sp_X5_windowsOpenTo A s (sp_X5_cellsCaughtBy A s (nI p))) w <;> cases q2 : tb (sp_X5_peopleHit A s (nI w)) p <;> simp_all
theorem e_admirer (h : AG (A.1 s) (B.1 5)) (ok : OKs A s) {p : Nat} (hp : p < tn (A.1 s 1 0)) : sp_X5_fondestWindow A s (nI p) = itN (tn (B.1 5 0 0)) (st_X9_admirer_19 B (nI p)) (-1) := by
  have hpl := bd_lt ok.2.1
  have hwl := bd_lt ok.1
  have hpt : tn (nI p) < tn (A.1 s 1 0) := by rw [tn_nI (by omega)]; exact hp
  unfold sp_X5_fondestWindow
  rw [← h.wc]
  refine (itN_rel (fun _ x y => x = y ∧ (x = -1 ∨ tn x < tn (A.1 s 0 0))) _ ⟨rfl, Or.inl rfl⟩ (fun k x y hk hr => ?_)).1
  obtain ⟨rfl, hx⟩ := hr
  have hkt : tn (nI k) < tn (A.1 s 0 0) := by rw [tn_nI (by omega)]; exact hk
  unfold st_X5_fondestWindow_15 st_X9_admirer_19
  rw [← e_hit h ok hkt]
  have hq := tb_adm ok hp hk
  cases q : tb (sp_X5_peopleHit A s (nI k)) p
  · rw [q] at hq
    rw [if_pos ((bit_0 (by omega)).mpr hq), if_neg (fun z => by rw [(bit_1 (by omega)).mp z] at q; cases q)]
    exact ⟨rfl, hx⟩
  · rw [q] at hq
    rw [if_neg (fun z => by rw [(bit_0 (by omega)).mp z] at hq; cases hq), if_pos ((bit_1 (by omega)).mpr q)]
    by_cases c : x = -1
    · rw [if_pos c, if_pos c]; exact ⟨rfl, Or.inr hkt⟩
    · rw [if_neg c, if_neg c, e_fond h hpt hkt, e_fond h hpt (hx.resolve_left c)]
      refine ⟨rfl, ?_⟩
      split
      · exact hx
      · exact Or.inr hkt
theorem e_best (h : AG (A.1 s) (B.1 5)) (ok : OKs A s) {a : Int32} : ∀ k, k + 1 ≤ tn (A.1 s 0 0) → ∃ j, j ≤ k ∧ itN k (st_X9_best_34 B a) 0 = nI j ∧ itN (k + 1) (st_X5_bestWindow_6 A s) ((-1), (-1)) = (nI j, sp_J6_bitCount_0f7a4 (sp_X5_peopleHit A s (nI j)))
  | 0, hk => by
    refine ⟨0, Nat.le_refl _, rfl, ?_⟩
    show st_X5_bestWindow_6 A s 0 ((-1), (-1)) = _
    unfold st_X5_bestWindow_6
    have g := bc_bd (ph_bd (M := A) (s := s) (a := nI 0) ok.2.1)
    rw [if_neg (fun q => g.1 (Int32.lt_of_le_of_lt q (by decide)))]
  | k + 1, hk => by
    have hwl := bd_lt ok.1
    obtain ⟨j, hj, e1, e2⟩ := e_best h ok (a := a) k (by omega)
    have hkt : tn (nI (k + 1)) < tn (A.1 s 0 0) := by rw [tn_nI (by omega)]; omega
    have hjt : tn (nI j) < tn (A.1 s 0 0) := by rw [tn_nI (by omega)]; omega
    have g1 : itN (k + 1) (st_X9_best_34 B a) 0 = st_X9_best_34 B a k (nI j) := by rw [itN_s, e1]
    have g2 : itN (k + 1 + 1) (st_X5_bestWindow_6 A s) ((-1), (-1)) = st_X5_bestWindow_6 A s (k + 1) (nI j, sp_J6_bitCount_0f7a4 (sp_X5_peopleHit A s (nI j))) := by rw [itN_s, e2]
    rw [g1, g2]
    unfold st_X9_best_34 st_X5_bestWindow_6
    rw [← e_hit h ok hkt, ← e_hit h ok hjt]
    dsimp only
    by_cases c : sp_J6_bitCount_0f7a4 (sp_X5_peopleHit A s (nI (k + 1))) ≤ sp_J6_bitCount_0f7a4 (sp_X5_peopleHit A s (nI j))
    · rw [if_pos c, if_pos c]; exact ⟨j, by omega, rfl, rfl⟩
    · rw [if_neg c, if_neg c]; exact ⟨k + 1, Nat.le_refl _, rfl, rfl⟩
theorem thr_tab : ∀ j, j < 30 → (10 * (nI j / 3) + irm (nI j) 3) / 10 = nI j / 3 ∧ irm (10 * (nI j / 3) + irm (nI j) 3) 10 = irm (nI j) 3 ∧ ¬ 10 * (nI j / 3) + irm (nI j) 3 = -1 := by decide +kernel
theorem dn_lt {i : Nat} (h : i < 30) : dn 30 i = nI (30 - 1 - i) := by unfold dn; rw [if_pos h]
/-- throws for one: how many, the first -/
theorem e_throws (h : AG (A.1 s) (B.1 5)) (ok : OKs A s) {p w a : Int32} (hw : tn w < tn (A.1 s 0 0)) :
    (itN 30 (st_X9_throwsFor_42 B p w a) (0, (-1))).1 = sp_X5_countThrows A s p w ∧
    ((sp_X5_firstThrow A s p w = -1 ∧ (itN 30 (st_X9_throwsFor_42 B p w a) (0, (-1))).2 = -1) ∨ ∃ j, j < 30 ∧ sp_X5_firstThrow A s p w = 10 * (nI j / 3) + irm (nI j) 3 ∧ (itN 30 (st_X9_throwsFor_42 B p w a) (0, (-1))).2 = nI j) := by
  have eC : sp_X5_countThrows A s p w = nI (cntN (fun t => decide (sp_X5_catcherOf A s w ((nI t) / 3) (irm (nI t) 3) = p)) 30) := by
    unfold sp_X5_countThrows
    refine itN_cnt0 (fun k b hk => ?_)
    unfold st_X5_countThrows_5
    simp only [decide_eq_true_eq]
  have step : ∀ k x, k < 30 → st_X9_throwsFor_42 B p w a k x = if decide (sp_X5_catcherOf A s w ((nI (30 - 1 - k)) / 3) (irm (nI (30 - 1 - k)) 3) = p) = true then (x.1 + 1, nI (30 - 1 - k)) else (x.1, x.2) := by
    intro k x hk
    unfold st_X9_throwsFor_42
    rw [dn_lt hk, ← e_caughtT h ok hw (by omega)]
    simp only [decide_eq_true_eq]
  have eP : ∀ t, ps_X5_firstThrow_2 A s p w t = decide (sp_X5_catcherOf A s w ((nI t) / 3) (irm (nI t) 3) = p) := by
    intro t
    unfold ps_X5_firstThrow_2
    split <;> simp_all
  have inv := itN_ind (f := st_X9_throwsFor_42 B p w a) (b := (0, -1)) (fun k x => x.1 = nI (cntN (fun i => decide (sp_X5_catcherOf A s w ((nI (30 - 1 - i)) / 3) (irm (nI (30 - 1 - i)) 3) = p)) k) ∧ ((x.2 = -1 ∧ ∀ t, 30 - k ≤ t → t < 30 → decide (sp_X5_catcherOf A s w ((nI t) / 3) (irm (nI t) 3) = p) = false) ∨ ∃ j, 30 - k ≤ j ∧ j < 30 ∧ x.2 = nI j ∧ decide (sp_X5_catcherOf A s w ((nI j) / 3) (irm (nI j) 3) = p) = true ∧ ∀ t, 30 - k ≤ t → t < j → decide (sp_X5_catcherOf A s w ((nI t) / 3) (irm (nI t) 3) = p) = false)) 30
    ⟨rfl, Or.inl ⟨rfl, fun t h1 h2 => by omega⟩⟩ (fun k x hk hx => by
      rw [step k x hk]
      obtain ⟨hc, hf⟩ := hx
      by_cases c : decide (sp_X5_catcherOf A s w ((nI (30 - 1 - k)) / 3) (irm (nI (30 - 1 - k)) 3) = p) = true
      · rw [if_pos c]
        refine ⟨?_, Or.inr ⟨30 - 1 - k, by omega, by omega, rfl, c, fun t h1 h2 => by omega⟩⟩
        rw [cntN, if_pos c, ← nI_1, ← hc]
      · rw [if_neg c]
        have cf : decide (sp_X5_catcherOf A s w ((nI (30 - 1 - k)) / 3) (irm (nI (30 - 1 - k)) 3) = p) = false := by simpa using c
        refine ⟨by rw [cntN, if_neg c]; exact hc, ?_⟩
        rcases hf with ⟨e, hn⟩ | ⟨j, h1, h2, h3, h4, h5⟩
        · refine Or.inl ⟨e, fun t h1 h2 => ?_⟩
          by_cases et : t = 30 - 1 - k
          · rw [et]; exact cf
          · exact hn t (by omega) h2
        · refine Or.inr ⟨j, by omega, h2, h3, h4, fun t h6 h7 => ?_⟩
          by_cases et : t = 30 - 1 - k
          · rw [et]; exact cf
          · exact h5 t (by omega) h7)
  generalize itN 30 (st_X9_throwsFor_42 B p w a) (0, (-1)) = z at inv ⊢
  refine ⟨?_, ?_⟩
  · rw [inv.1, eC]
    exact congrArg nI (cntN_rev 30 (fun t => decide (sp_X5_catcherOf A s w ((nI t) / 3) (irm (nI t) 3) = p)))
  · unfold sp_X5_firstThrow
    rcases inv.2 with ⟨e, hn⟩ | ⟨j, h1, h2, h3, h4, h5⟩
    · refine Or.inl ⟨fndN_none 30 0 (fun t _ ht => ?_), e⟩
      rw [eP]; exact hn t (by omega) (by omega)
    · refine Or.inr ⟨j, h2, ?_, h3⟩
      rw [fndN_hit 30 0 j (Nat.zero_le _) (by omega) (by rw [eP]; exact h4) (fun t _ ht => by rw [eP]; exact h5 t (by omega) ht)]
      rw [decide_eq_true_eq] at h4
      rw [if_pos h4]
end Asks
