theorem pd_0 {M : MT} {s : Nat} : (sp_X5_passDay M s).1 s 0 0 = M.1 s 0 0 := by
  unfold sp_X5_passDay
  exact itN_inv (fun m : MT => m.1 s 0 0 = M.1 s 0 0) _ (u1_f (by decide)) (fun k m hk hm => by unfold st_X5_passDay_18; (repeat' split) <;> simp [sp_X2_drop, u1, hm])
theorem th_0 {M : MT} {s : Nat} {a b c : Int32} : (sp_X5_throwRose M s a b c).2.1 s 0 0 = M.1 s 0 0 := by
  unfold sp_X5_throwRose
  split
  · rfl
  · show (u1 (u1 M s 12 _ _) s 13 _ _).1 s 0 0 = _
    rw [u1_f (by decide), u1_f (by decide)]
theorem th_J {M : MT} {s : Nat} {a b c : Int32} : (sp_X5_throwRose M s a b c).2.2 = M.2 := by
  unfold sp_X5_throwRose; split <;> rfl
theorem sd_0 {M : MT} {s : Nat} : (sdN M s).1 s 0 0 = M.1 s 0 0 := u1_f (by decide)
theorem wd_0 {M : MT} {s : Nat} {v : Int32} : (u1 M s 3 0 v).1 s 0 0 = M.1 s 0 0 := u1_f (by decide)
theorem carn_fin {X : MT} {w0 w f y : Int32} (g1 : OKs X 0) (g2 : X.1 0 0 0 = w0) (h8 : bd w 8) (hlt : tn w < tn w0) : OKs (sp_X5_passDay (sp_X5_throwRose X 0 w f y).2 0) 0 ∧ (sp_X5_passDay (sp_X5_throwRose X 0 w f y).2 0).1 0 0 0 = w0 :=
  ⟨OKs_passDay (OKs_throw2 g1 h8 (by rw [g2]; exact hlt)), pd_0.trans (th_0.trans g2)⟩
theorem carn_s3 {X : MT} {w0 : Int32} (g1 : OKs X 0) (g2 : X.1 0 0 0 = w0) : OKs (sdN (sdN (sdN X 0) 0) 0) 0 ∧ (sdN (sdN (sdN X 0) 0) 0).1 0 0 0 = w0 :=
  ⟨OKs_sd (OKs_sd (OKs_sd g1)), sd_0.trans (sd_0.trans (sd_0.trans g2))⟩
theorem carn_s1 {M : MT} {d : Int32} (h : OKs M 0) (hd : bd d 11) : OKs (u1 (sdN M 0) 0 3 0 d) 0 ∧ (u1 (sdN M 0) 0 3 0 d).1 0 0 0 = M.1 0 0 0 :=
  ⟨OKs_wind (OKs_sd h) hd, wd_0.trans sd_0⟩
theorem draw11 {M : MT} : bd (sp_X5_draw M 0 11).1 11 := (draw_bd (n := 11) (show bd 11 12 from bd_lit (by decide)) (show ¬ (11 : Int32) = 0 by decide)).1
theorem carn_g1 {M : MT} (h : OKs M 0) : OKs (u1 (sdN M 0) 0 3 0 (sp_X5_draw M 0 11).1) 0 ∧ (u1 (sdN M 0) 0 3 0 (sp_X5_draw M 0 11).1).1 0 0 0 = M.1 0 0 0 :=
  carn_s1 (d := (sp_X5_draw M 0 11).1) h draw11
theorem carn_g3 {M X : MT} (h : OKs M 0) (h0 : ¬ M.1 0 0 0 = 0) : bd (sp_X5_draw X 0 (M.1 0 0 0)).1 8 ∧ tn (sp_X5_draw X 0 (M.1 0 0 0)).1 < tn (M.1 0 0 0) :=
  draw_bd (n := 8) (M := X) (s := 0) h.1 h0
theorem snd_mk {A B : Type} {a : A} {b : B} : (a, b).2 = b := rfl
theorem carn_eq {M : MT} : (sp_X5_carnival M).2 = sp_X5_passDay ((sp_X5_throwRose (sdN (sdN (sdN (u1 (sdN M 0) 0 3 0 ((sp_X5_draw M 0 11).1)) 0) 0) 0) 0 ((sp_X5_draw (u1 (sdN M 0) 0 3 0 ((sp_X5_draw M 0 11).1)) 0 (M.1 0 0 0)).1) ((sp_X5_draw (sdN (u1 (sdN M 0) 0 3 0 ((sp_X5_draw M 0 11).1)) 0) 0 10).1) ((sp_X5_draw (sdN (sdN (u1 (sdN M 0) 0 3 0 ((sp_X5_draw M 0 11).1)) 0) 0) 0 3).1)).2) 0 :=
  (congrArg Prod.snd (sp_X5_carnival.eq_1 M)).trans snd_mk
theorem carn_y {M : MT} {w0 d w f y : Int32} {X : MT} (e : X = sp_X5_passDay ((sp_X5_throwRose (sdN (sdN (sdN (u1 (sdN M 0) 0 3 0 d) 0) 0) 0) 0 w f y).2) 0) (g : OKs (u1 (sdN M 0) 0 3 0 d) 0 ∧ (u1 (sdN M 0) 0 3 0 d).1 0 0 0 = w0) (g3 : bd w 8 ∧ tn w < tn w0) : OKs X 0 ∧ X.1 0 0 0 = w0 := by
  rw [e]
  have g4 := carn_s3 g.1 g.2
  exact carn_fin g4.1 g4.2 g3.1 g3.2
theorem OKs_carn {M : MT} (h : OKs M 0) (h0 : ¬ M.1 0 0 0 = 0) : OKs (sp_X5_carnival M).2 0 ∧ (sp_X5_carnival M).2.1 0 0 0 = M.1 0 0 0 :=
  carn_y carn_eq (carn_g1 h) (carn_g3 h h0)
theorem wi_bd1 {a : Int32} {n : Nat} {x : Int32} (c : sp_X8_within a 1 x = true) (hx : x = nI n) (hn : n < 2147483648) : bd a (n + 1) := by
  have := within_iff.mp c
  exact bd_in (m := n) (Int32.le_trans (by decide) this.1) (by rw [← hx]; exact this.2) hn (by omega)
