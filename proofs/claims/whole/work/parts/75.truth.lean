/-! ===== throws in truth, days, draws ===== -/
section Truth
variable {A B : MT} {s : Nat}
theorem due_12 {p : Nat} {v a b : Int32} : sp_X5_dueDay (u1 A s 12 p v) s a b = sp_X5_dueDay A s a b := by
  have e : ∀ f i, f ≠ 12 → (u1 A s 12 p v).1 s f i = A.1 s f i := fun f i h => u1_f h
  unfold sp_X5_dueDay sp_X5_dayBack sp_X5_slowOf sp_X2_isHorse
  simp only [e 3 _ (by decide), e 9 _ (by decide), e 7 _ (by decide), e 10 _ (by decide)]
theorem slow_12 {p : Nat} {v a b : Int32} : sp_X9_slowTo (u1 B 5 12 p v) a b = sp_X9_slowTo B a b := by
  have e : ∀ f i, f ≠ 12 → (u1 B 5 12 p v).1 5 f i = B.1 5 f i := fun f i h => u1_f h
  unfold sp_X9_slowTo
  simp only [e 9 _ (by decide), e 10 _ (by decide)]
theorem come_12 {p : Nat} {v a b : Int32} : sp_X9_isComing (u1 B 5 12 p v) a b = sp_X9_isComing B a b := by
  have e : ∀ f i, f ≠ 12 → (u1 B 5 12 p v).1 5 f i = B.1 5 f i := fun f i h => u1_f h
  unfold sp_X9_isComing
  rw [slow_12]
  simp only [e 3 _ (by decide), e 9 _ (by decide), e 7 _ (by decide)]
theorem e_throwRose (h : AG (A.1 s) (B.1 5)) (ok : OKs A s) {w f y : Int32} (hw : tn w < tn (A.1 s 0 0)) (hy : y = 0 ∨ y = 1 ∨ y = 2) :
    (sp_X5_throwRose A s w f y).1 = (sp_X9_throwsOne B w f y).1 ∧ AG ((sp_X5_throwRose A s w f y).2.1 s) ((sp_X9_throwsOne B w f y).2.1 5) := by
  unfold sp_X5_throwRose sp_X9_throwsOne
  rw [e_caught h ok hw hy]
  by_cases c : sp_X9_caughtBy B w f y = -1
  · rw [if_pos c, if_pos c]; exact ⟨c, h⟩
  · rw [if_neg c, if_neg c, due_12, come_12, slow_12]
    have hp : tn (sp_X9_caughtBy B w f y) < tn (A.1 s 1 0) := by
      have q := (ca5 (M := B) (a := sp_X9_landing B w f y) (b := -1) (by rw [← h.pc]; exact ok.2.1) c).2
      rw [h.pc]; exact q
    rw [e_due h ok hp hw]
    have ag1 : ∀ v, AG ((u1 (u1 A s 12 (tn (sp_X9_caughtBy B w f y)) w) s 13 (tn (sp_X9_caughtBy B w f y)) v).1 s) ((u1 (u1 B 5 12 (tn (sp_X9_caughtBy B w f y)) w) 5 13 (tn (sp_X9_caughtBy B w f y)) v).1 5) := fun v => by
      rw [u1_V, u1_V, u1_V, u1_V]
      exact AG_up (AG_up h (by decide) (by decide)) (by decide) (by decide)
    by_cases c2 : sp_X9_isComing B (sp_X9_caughtBy B w f y) w = true
    · rw [if_pos c2, if_pos c2]; exact ⟨rfl, ag1 _⟩
    · rw [if_neg c2, if_neg c2]; exact ⟨rfl, ag1 _⟩
theorem th_ne {w f y : Int32} {t : Nat} (ht : t ≠ s) : (sp_X5_throwRose A s w f y).2.1 t = A.1 t := by
  unfold sp_X5_throwRose
  split
  · rfl
  · show (u1 (u1 A s _ _ _) s _ _ _).1 t = _
    rw [u1_ne ht, u1_ne ht]
theorem th_2 {w f y : Int32} : (sp_X5_throwRose A s w f y).2.2 = A.2 := by
  unfold sp_X5_throwRose
  split <;> rfl
theorem th_1 {w f y : Int32} : (sp_X5_throwRose A s w f y).2.1 s 1 0 = A.1 s 1 0 := by
  unfold sp_X5_throwRose
  split
  · rfl
  · show (u1 (u1 A s _ _ _) s _ _ _).1 s 1 0 = _
    rw [u1_f (by decide), u1_f (by decide)]
theorem to_2 {w f y : Int32} : (sp_X9_throwsOne B w f y).2.2 = B.2 := by
  unfold sp_X9_throwsOne
  (repeat' split) <;> rfl
theorem sim_thrown (hx : OKX A) (hr : R2 A B) {a0 a1 a2 : Int32} : SR (sp_X8_thrown A a0 a1 a2) (sp_X9_thrown B a0 a1 a2) := by
  have h := hr.1
  unfold sp_X8_thrown sp_X9_thrown
  rw [e_throw h]
  by_cases c : sp_X9_isThrow B a0 a1 a2 = true
  · rw [if_pos c, if_pos c]
    have g := thr_in h hx.1.1 c
    have b8 : bd a0 8 := by
      have := hx.1.1
      rw [h.wc] at this
      exact isThr5 this c
    have e := e_throwRose h hx.1 (f := a1) g.1 g.2
    exact sr_s0 hx hr e.1 (OKs_throw2 hx.1 b8 g.1) (fun t ht => th_ne ht) th_2 (by rw [th_1]; exact Nat.le_refl _) to_2 e.2
  · rw [if_neg c, if_neg c]; exact sr_no hx hr (by decide)
theorem e_pass (h : AG (A.1 s) (B.1 5)) (ok : OKs A s) : AG ((sp_X5_passDay A s).1 s) ((sp_X9_passes B).1 5) := by
  have hpl := bd_lt ok.2.1
  have hd := ok.2.2.2.2.1
  have hdl := bd_lt hd
  have loop : ∀ X Y : MT, AG (X.1 s) (Y.1 5) → X.1 s 1 0 = A.1 s 1 0 → AG ((itN (tn (A.1 s 1 0)) (st_X5_passDay_18 A s) X).1 s) ((itN (tn (A.1 s 1 0)) (st_X9_passes_24 B) Y).1 5) := by
    intro X Y hXY hpc
    refine (itN_rel (f := st_X5_passDay_18 A s) (g := st_X9_passes_24 B) (b := X) (c := Y) (fun _ x y => AG (x.1 s) (y.1 5) ∧ x.1 s 1 0 = A.1 s 1 0) _ ⟨hXY, hpc⟩ (fun k x y hk hrr => ?_)).1
    obtain ⟨g, gp⟩ := hrr
    have ed := g.pe (f := 13) (p := k) (by rw [gp]; exact hk) (by omega) (by omega)
    have ey := g.wy (i := 1) (by omega)
    have es := g.sd
    unfold st_X5_passDay_18 st_X9_passes_24
    rw [← ed, ← ey, ← es]
    by_cases c1 : x.1 s 13 k = -1
    · rw [if_pos c1, if_pos c1]; exact ⟨g, gp⟩
    · rw [if_neg c1, if_neg c1]
      by_cases c2 : x.1 s 3 1 < x.1 s 13 k
      · rw [if_pos c2, if_neg (Int32.not_le.mpr c2)]; exact ⟨g, gp⟩
      · rw [if_neg c2, if_pos (Int32.not_lt.mp c2)]
        unfold sp_X2_drop
        refine ⟨?_, ?_⟩
        · rw [u1_V, u1_V, u1_V, u1_V, u1_V, u1_V]
          have e4 : (up (up (x.1 s) 12 k (-1)) 13 k (-1)) 4 0 = x.1 s 4 0 := by
            unfold up; rw [if_neg (by omega), if_neg (by omega)]
          rw [e4]
          exact AG_up (AG_up (AG_up g (by decide) (by decide)) (by decide) (by decide)) (by decide) (by decide)
        · rw [u1_f (by decide), u1_f (by decide), u1_f (by decide)]; exact gp
  unfold sp_X5_passDay sp_X9_passes
  have ey := h.wy (i := 1) (by omega)
  rw [← ey, ← h.pc]
  by_cases c : 999 ≤ A.1 s 3 1
  · rw [if_pos c]
    have e9 : A.1 s 3 1 = 999 := by
      rw [bd_eq hd] at c ⊢
      have := (nI_leI (a := 999) (by omega) (by omega)).mp c
      rw [show tn (A.1 s 3 1) = 999 by omega]; rfl
    have ei : imin (A.1 s 3 1 + 1) 999 = A.1 s 3 1 := by rw [e9]; decide
    rw [ei]
    refine loop _ _ ?_ (u1_f (by decide))
    rw [u1_V, up_self]; exact h
  · rw [if_neg c]
    have ei : imin (A.1 s 3 1 + 1) 999 = A.1 s 3 1 + 1 := by
      unfold imin
      rw [if_neg]
      rw [bd_eq hd] at c ⊢
      have := mt (nI_leI (a := 999) (by omega) (by omega)).mpr c
      rw [nI_1]
      exact nI_nlt (a := 999) (by omega) (by omega)
    rw [ei]
    refine loop _ _ ?_ (u1_f (by decide))
    rw [u1_V, u1_V]
    exact AG_up h (by decide) (by decide)
theorem pd_ne {t : Nat} (ht : t ≠ s) : (sp_X5_passDay A s).1 t = A.1 t := by
  unfold sp_X5_passDay
  exact itN_inv (fun m : MT => m.1 t = A.1 t) _ (u1_ne ht) (fun k m _ hm => by
    unfold st_X5_passDay_18 sp_X2_drop
    (repeat' split) <;> first | exact hm | (rw [u1_ne ht, u1_ne ht, u1_ne ht]; exact hm))
theorem pd_2 : (sp_X5_passDay A s).2 = A.2 := by
  unfold sp_X5_passDay
  exact itN_inv (fun m : MT => m.2 = A.2) _ rfl (fun k m _ hm => by
    unfold st_X5_passDay_18 sp_X2_drop
    (repeat' split) <;> exact hm)
theorem pd_1 : (sp_X5_passDay A s).1 s 1 0 = A.1 s 1 0 := by
  unfold sp_X5_passDay
  exact itN_inv (fun m : MT => m.1 s 1 0 = A.1 s 1 0) _ (u1_f (by decide)) (fun k m _ hm => by
    unfold st_X5_passDay_18 sp_X2_drop
    (repeat' split) <;> first | exact hm | (rw [u1_f (by decide), u1_f (by decide), u1_f (by decide)]; exact hm))
theorem ps_2 : (sp_X9_passes B).2 = B.2 := by
  unfold sp_X9_passes
  (repeat' split) <;> exact itN_inv (fun m : MT => m.2 = B.2) _ rfl (fun k m _ hm => by
    unfold st_X9_passes_24
    (repeat' split) <;> exact hm)
/-- the class' live street and the reference's go on alike -/
def LV (A B x y : MT) : Prop := AG (x.1 0) (y.1 5) ∧ OKs x 0 ∧ (∀ t, t ≠ 0 → x.1 t = A.1 t) ∧ x.2 = A.2 ∧ y.2 = B.2 ∧ x.1 0 1 0 = A.1 0 1 0 ∧ x.1 0 0 0 = A.1 0 0 0
theorem lv_start (hx : OKX A) (hr : R2 A B) : LV A B A B := ⟨hr.1, hx.1, fun _ _ => rfl, rfl, rfl, rfl, rfl⟩
theorem lv_pass {x y : MT} (h : LV A B x y) : LV A B (sp_X5_passDay x 0) (sp_X9_passes y) := by
  obtain ⟨h1, h2, h3, h4, h5, h6, h7⟩ := h
  exact ⟨e_pass h1 h2, OKs_passDay h2, fun t ht => (pd_ne ht).trans (h3 t ht), pd_2.trans h4, ps_2.trans h5, pd_1.trans h6, pd_0.trans h7⟩
theorem lv_fin {α : Type} {v w : α} {x y : MT} (hx : OKX A) (hr : R2 A B) (h : LV A B x y) (e : v = w) : SR (v, x) (w, y) := by
  obtain ⟨h1, h2, h3, h4, h5, h6, _⟩ := h
  exact sr_s0 hx hr e h2 h3 h4 (by rw [h6]; exact Nat.le_refl _) h5 h1
theorem sim_days (hx : OKX A) (hr : R2 A B) {a0 : Int32} : SR (sp_X8_days A a0) (sp_X9_days B a0) := by
  unfold sp_X8_days sp_X9_days
  rw [← w98]
  by_cases c : sp_X9_within a0 1 60 = true
  · rw [if_pos c, if_pos c]
    have key := itN_rel (f := st_X8_days_19 A a0) (g := st_X9_days_19 B a0) (b := A) (c := B) (fun _ x y => LV A B x y) (tn a0) (lv_start hx hr) (fun k x y _ h => by
      unfold st_X8_days_19 st_X9_days_19
      exact lv_pass h)
    generalize itN (tn a0) (st_X8_days_19 A a0) A = x at key ⊢
    generalize itN (tn a0) (st_X9_days_19 B a0) B = y at key ⊢
    exact lv_fin hx hr key key.1.sd
  · rw [if_neg c, if_neg c]; exact sr_no hx hr (by decide)
theorem dr_eq {X Y : MT} {a : Int32} (h : X.1 s 5 0 = Y.1 5 5 0) (ha : ¬ a ≤ 0) : (sp_X5_draw X s a).1 = (sp_X9_draw Y a).1 := by
  unfold sp_X5_draw sp_X9_draw
  rw [if_neg ha]
  show irm (ius ((u1 X s 5 0 (((X.1 s 5 0) * 1103515245) + 12345)).1 s 5 0) 16) a = _
  rw [u1_eq, h]
theorem lv_sd {x y : MT} (h : LV A B x y) : LV A B (sdN x 0) (sdN y 5) := by
  obtain ⟨h1, h2, h3, h4, h5, h6, h7⟩ := h
  refine ⟨?_, OKs_sd h2, fun t ht => (u1_ne ht).trans (h3 t ht), h4, h5, (u1_f (by decide)).trans h6, (u1_f (by decide)).trans h7⟩
  unfold sdN
  rw [u1_V, u1_V, h1.se]
  exact AG_up h1 (by decide) (by decide)
theorem lv_wind {x y : MT} {v : Int32} (h : LV A B x y) (hv : bd v 11) : LV A B (u1 x 0 3 0 v) (u1 y 5 3 0 v) := by
  obtain ⟨h1, h2, h3, h4, h5, h6, h7⟩ := h
  refine ⟨?_, OKs_wind h2 hv, fun t ht => (u1_ne ht).trans (h3 t ht), h4, h5, (u1_f (by decide)).trans h6, (u1_f (by decide)).trans h7⟩
  rw [u1_V, u1_V]
  exact AG_up h1 (by decide) (by decide)
theorem lv_throw {x y : MT} {w f z : Int32} (h : LV A B x y) (w8 : bd w 8) (hw : tn w < tn (A.1 0 0 0)) (hz : z = 0 ∨ z = 1 ∨ z = 2) : (sp_X5_throwRose x 0 w f z).1 = (sp_X9_throwsOne y w f z).1 ∧ LV A B (sp_X5_throwRose x 0 w f z).2 (sp_X9_throwsOne y w f z).2 := by
  obtain ⟨h1, h2, h3, h4, h5, h6, h7⟩ := h
  have hw2 : tn w < tn (x.1 0 0 0) := by rw [h7]; exact hw
  have e := e_throwRose h1 h2 (f := f) hw2 hz
  exact ⟨e.1, e.2, OKs_throw2 h2 w8 hw2, fun t ht => (th_ne ht).trans (h3 t ht), th_2.trans h4, to_2.trans h5, th_1.trans h6, th_0.trans h7⟩
theorem way_of {z : Int32} (h : bd z 3) : z = 0 ∨ z = 1 ∨ z = 2 := by
  have e := bd_eq h
  have hl := bd_lt h
  obtain ⟨k, hk⟩ : ∃ k, k = tn z := ⟨_, rfl⟩
  rw [← hk] at e hl
  subst e
  rcases (show k = 0 ∨ k = 1 ∨ k = 2 by omega) with rfl | rfl | rfl
  · exact Or.inl rfl
  · exact Or.inr (Or.inl rfl)
  · exact Or.inr (Or.inr rfl)
theorem nle0 {a : Int32} {n : Nat} (h : bd a n) (h0 : ¬ a = 0) : ¬ a ≤ 0 := fun z => h0 (Int32.le_antisymm z (Int32.not_lt.mp h.1))
theorem carn9 {α : Type} {P : α × MT → Prop} {c : Prop} [Decidable c] {u v : α} {m : MT} (h1 : c → P (u, m)) (h2 : ¬ c → P (v, m)) : P (if c then (u, m) else (v, m)) := by
  by_cases q : c
  · rw [if_pos q]; exact h1 q
  · rw [if_neg q]; exact h2 q
theorem fst_mk {α β : Type} {a : α} {b : β} : (a, b).1 = a := rfl
theorem carn_eq1 {M : MT} : (sp_X5_carnival M).1 = (sp_X5_throwRose (sdN (sdN (sdN (u1 (sdN M 0) 0 3 0 ((sp_X5_draw M 0 11).1)) 0) 0) 0) 0 ((sp_X5_draw (u1 (sdN M 0) 0 3 0 ((sp_X5_draw M 0 11).1)) 0 (M.1 0 0 0)).1) ((sp_X5_draw (sdN (u1 (sdN M 0) 0 3 0 ((sp_X5_draw M 0 11).1)) 0) 0 10).1) ((sp_X5_draw (sdN (sdN (u1 (sdN M 0) 0 3 0 ((sp_X5_draw M 0 11).1)) 0) 0) 0 3).1)).1 :=
  (congrArg Prod.fst (sp_X5_carnival.eq_1 M)).trans fst_mk
theorem carn_g (x : MT) : ∃ d w f z : Int32, d = (sp_X5_draw x 0 11).1 ∧ w = (sp_X5_draw (u1 (sdN x 0) 0 3 0 d) 0 (x.1 0 0 0)).1 ∧ f = (sp_X5_draw (sdN (u1 (sdN x 0) 0 3 0 d) 0) 0 10).1 ∧ z = (sp_X5_draw (sdN (sdN (u1 (sdN x 0) 0 3 0 d) 0) 0) 0 3).1 ∧
    (sp_X5_carnival x).1 = (sp_X5_throwRose (sdN (sdN (sdN (u1 (sdN x 0) 0 3 0 d) 0) 0) 0) 0 w f z).1 ∧ (sp_X5_carnival x).2 = sp_X5_passDay (sp_X5_throwRose (sdN (sdN (sdN (u1 (sdN x 0) 0 3 0 d) 0) 0) 0) 0 w f z).2 0 :=
  ⟨_, _, _, _, rfl, rfl, rfl, rfl, carn_eq1, carn_eq⟩
/-- one carnival: what the class draws and does, and the reference -/
theorem e_carn {x y : MT} (h : LV A B x y) (hw0 : ¬ A.1 0 0 0 = 0) : ∃ d w f z : Int32,
    d = (sp_X9_draw y 11).1 ∧ w = (sp_X9_draw (u1 (sdN y 5) 5 3 0 d) (y.1 5 0 0)).1 ∧ f = (sp_X9_draw (sdN (u1 (sdN y 5) 5 3 0 d) 5) 10).1 ∧ z = (sp_X9_draw (sdN (sdN (u1 (sdN y 5) 5 3 0 d) 5) 5) 3).1 ∧
    (sp_X5_carnival x).1 = (sp_X9_throwsOne (sdN (sdN (sdN (u1 (sdN y 5) 5 3 0 d) 5) 5) 5) w f z).1 ∧
    LV A B (sp_X5_carnival x).2 (sp_X9_passes (sp_X9_throwsOne (sdN (sdN (sdN (u1 (sdN y 5) 5 3 0 d) 5) 5) 5) w f z).2) := by
  have hx0 : ¬ x.1 0 0 0 = 0 := by rw [h.2.2.2.2.2.2]; exact hw0
  obtain ⟨d, w, f, z, hd, hw, hf, hz, e1, e2⟩ := carn_g x
  generalize sp_X5_carnival x = p at e1 e2 ⊢
  have b11 : bd d 11 := by rw [hd]; exact draw11
  have l1 := lv_wind (lv_sd h) b11
  have bw := draw_bd (n := 8) (M := u1 (sdN x 0) 0 3 0 d) (s := 0) h.2.1.1 hx0
  rw [← hw] at bw
  have hd9 : d = (sp_X9_draw y 11).1 := hd.trans (dr_eq h.1.se (by decide))
  have hw9 : w = (sp_X9_draw (u1 (sdN y 5) 5 3 0 d) (y.1 5 0 0)).1 := by rw [hw, ← h.1.wc]; exact dr_eq l1.1.se (nle0 h.2.1.1 hx0)
  generalize u1 (sdN x 0) 0 3 0 d = X1 at l1 hf hz e1 e2
  generalize hY : u1 (sdN y 5) 5 3 0 d = Y1 at l1 hw9
  have l2 := lv_sd l1
  have hf9 : f = (sp_X9_draw (sdN Y1 5) 10).1 := hf.trans (dr_eq l2.1.se (by decide))
  have l3 := lv_sd l2
  have hz9 : z = (sp_X9_draw (sdN (sdN Y1 5) 5) 3).1 := hz.trans (dr_eq l3.1.se (by decide))
  have bz : bd z 3 := by rw [hz]; exact (draw_bd (n := 3) (a := 3) (bd_lit (by decide)) (by decide)).1
  have l4 := lv_sd l3
  have hwl : tn w < tn (A.1 0 0 0) := by rw [← h.2.2.2.2.2.2]; exact bw.2
  have t := lv_throw l4 (f := f) bw.1 hwl (way_of bz)
  subst hY
  refine ⟨d, w, f, z, hd9, hw9, hf9, hz9, ?_, ?_⟩
  · rw [e1]; exact t.1
  · rw [e2]; exact lv_pass t.2
theorem sim_drawn (hx : OKX A) (hr : R2 A B) {a0 : Int32} : SR (sp_X8_drawn A a0) (sp_X9_drawn B a0) := by
  have h := hr.1
  unfold sp_X8_drawn sp_X9_drawn
  rw [← w98, ← h.wc]
  by_cases c : sp_X9_within a0 1 40 = true
  · rw [if_pos c, if_pos c]
    by_cases c2 : A.1 0 0 0 = 0
    · rw [if_pos c2, if_pos c2]; exact sr_no hx hr (by decide)
    · rw [if_neg c2, if_neg c2]
      have key := itN_rel (f := st_X8_drawn_38 A a0) (g := st_X9_drawn_35 B a0) (b := (0, A)) (c := (0, B)) (fun _ x y => x.1 = y.1 ∧ LV A B x.2 y.2) (tn a0) ⟨rfl, lv_start hx hr⟩ (fun k x y _ hrr => by
        obtain ⟨g1, g2⟩ := hrr
        obtain ⟨d, w, f, z, hd, hw, hf, hz, e1, e2⟩ := e_carn g2 c2
        unfold st_X8_drawn_38 st_X9_drawn_35
        rw [← hd, ← hw, ← hf, ← hz]
        generalize sp_X9_throwsOne (sdN (sdN (sdN (u1 (sdN y.2 5) 5 3 0 d) 5) 5) 5) w f z = q at e1 e2 ⊢
        generalize sp_X5_carnival x.2 = p at e1 e2 ⊢
        rw [e1, g1]
        by_cases c3 : q.1 = -1
        · rw [if_pos c3, if_pos c3]; exact ⟨rfl, e2⟩
        · rw [if_neg c3, if_neg c3]; exact ⟨rfl, e2⟩)
      generalize itN (tn a0) (st_X8_drawn_38 A a0) (0, A) = x at key ⊢
      generalize itN (tn a0) (st_X9_drawn_35 B a0) (0, B) = y at key ⊢
      exact lv_fin hx hr key.2 key.1
  · rw [if_neg c, if_neg c]; exact sr_no hx hr (by decide)
end Truth
