theorem itN_s {A : Type} (n : Nat) (f : Nat → A → A) (b : A) : itN (n + 1) f b = f n (itN n f b) := rfl
theorem pd_0 {M : MT} {s : Nat} : (sp_X5_passDay M s).1 s 0 0 = M.1 s 0 0 := by
  unfold sp_X5_passDay
  exact itN_inv (fun m : MT => m.1 s 0 0 = M.1 s 0 0) _ (u1_f (by decide)) (fun k m hk hm => by unfold st_X5_passDay_18; (repeat' split) <;> simp [sp_X2_drop, u1, hm])
theorem th_0 {M : MT} {s : Nat} {a b c : Int32} : (sp_X5_throwRose M s a b c).2.1 s 0 0 = M.1 s 0 0 := by
  unfold sp_X5_throwRose
  split
  · rfl
  · show (u1 (u1 M s 12 _ _) s 13 _ _).1 s 0 0 = _
    rw [u1_f (by decide), u1_f (by decide)]
theorem th_J {M : MT} {s : Nat} {a b c : Int32} : (sp_X5_throwRose M s a b c).2.2 = M.2 := by
  unfold sp_X5_throwRose; split <;> rfl
theorem sd_0 {M : MT} {s : Nat} : (sdN M s).1 s 0 0 = M.1 s 0 0 := u1_f (by decide)
theorem wd_0 {M : MT} {s : Nat} {v : Int32} : (u1 M s 3 0 v).1 s 0 0 = M.1 s 0 0 := u1_f (by decide)
theorem carn_fin {X : MT} {w0 w f y : Int32} (g1 : OKs X 0) (g2 : X.1 0 0 0 = w0) (h8 : bd w 8) (hlt : tn w < tn w0) : OKs (sp_X5_passDay (sp_X5_throwRose X 0 w f y).2 0) 0 ∧ (sp_X5_passDay (sp_X5_throwRose X 0 w f y).2 0).1 0 0 0 = w0 :=
  ⟨OKs_passDay (OKs_throw2 g1 h8 (by rw [g2]; exact hlt)), pd_0.trans (th_0.trans g2)⟩
theorem carn_s3 {X : MT} {w0 : Int32} (g1 : OKs X 0) (g2 : X.1 0 0 0 = w0) : OKs (sdN (sdN (sdN X 0) 0) 0) 0 ∧ (sdN (sdN (sdN X 0) 0) 0).1 0 0 0 = w0 :=
  ⟨OKs_sd (OKs_sd (OKs_sd g1)), sd_0.trans (sd_0.trans (sd_0.trans g2))⟩
theorem carn_s1 {M : MT} {d : Int32} (h : OKs M 0) (hd : bd d 11) : OKs (u1 (sdN M 0) 0 3 0 d) 0 ∧ (u1 (sdN M 0) 0 3 0 d).1 0 0 0 = M.1 0 0 0 :=
  ⟨OKs_wind (OKs_sd h) hd, wd_0.trans sd_0⟩
theorem draw11 {M : MT} : bd (sp_X5_draw M 0 11).1 11 := (draw_bd (n := 11) (show bd 11 12 from bd_lit (by decide)) (show ¬ (11 : Int32) = 0 by decide)).1
theorem carn_g1 {M : MT} (h : OKs M 0) : OKs (u1 (sdN M 0) 0 3 0 (sp_X5_draw M 0 11).1) 0 ∧ (u1 (sdN M 0) 0 3 0 (sp_X5_draw M 0 11).1).1 0 0 0 = M.1 0 0 0 :=
  carn_s1 (d := (sp_X5_draw M 0 11).1) h draw11
theorem carn_g3 {M X : MT} (h : OKs M 0) (h0 : ¬ M.1 0 0 0 = 0) : bd (sp_X5_draw X 0 (M.1 0 0 0)).1 8 ∧ tn (sp_X5_draw X 0 (M.1 0 0 0)).1 < tn (M.1 0 0 0) :=
  draw_bd (n := 8) (M := X) (s := 0) h.1 h0
theorem snd_mk {A B : Type} {a : A} {b : B} : (a, b).2 = b := rfl
theorem carn_eq {M : MT} : (sp_X5_carnival M).2 = sp_X5_passDay ((sp_X5_throwRose (sdN (sdN (sdN (u1 (sdN M 0) 0 3 0 ((sp_X5_draw M 0 11).1)) 0) 0) 0) 0 ((sp_X5_draw (u1 (sdN M 0) 0 3 0 ((sp_X5_draw M 0 11).1)) 0 (M.1 0 0 0)).1) ((sp_X5_draw (sdN (u1 (sdN M 0) 0 3 0 ((sp_X5_draw M 0 11).1)) 0) 0 10).1) ((sp_X5_draw (sdN (sdN (u1 (sdN M 0) 0 3 0 ((sp_X5_draw M 0 11).1)) 0) 0) 0 3).1)).2) 0 :=
  (congrArg Prod.snd (sp_X5_carnival.eq_1 M)).trans snd_mk
theorem carn_y {M : MT} {w0 d w f y : Int32} {X : MT} (e : X = sp_X5_passDay ((sp_X5_throwRose (sdN (sdN (sdN (u1 (sdN M 0) 0 3 0 d) 0) 0) 0) 0 w f y).2) 0) (g : OKs (u1 (sdN M 0) 0 3 0 d) 0 ∧ (u1 (sdN M 0) 0 3 0 d).1 0 0 0 = w0) (g3 : bd w 8 ∧ tn w < tn w0) : OKs X 0 ∧ X.1 0 0 0 = w0 := by
  rw [e]
  have g4 := carn_s3 g.1 g.2
  exact carn_fin g4.1 g4.2 g3.1 g3.2
theorem OKs_carn {M : MT} (h : OKs M 0) (h0 : ¬ M.1 0 0 0 = 0) : OKs (sp_X5_carnival M).2 0 ∧ (sp_X5_carnival M).2.1 0 0 0 = M.1 0 0 0 :=
  carn_y carn_eq (carn_g1 h) (carn_g3 h h0)
theorem carn_st {A : Type} {m x : A × MT} (e : x.2 = (sp_X5_carnival m.2).2) (h : OKs m.2 0 ∧ ¬ m.2.1 0 0 0 = 0) : OKs x.2 0 ∧ ¬ x.2.1 0 0 0 = 0 := by
  have g := OKs_carn h.1 h.2
  rw [e]
  exact ⟨g.1, by rw [g.2]; exact h.2⟩
theorem ite_snd {A B : Type} {c : Prop} [Decidable c] {a b : A} {x : B} : (if c then (a, x) else (b, x)).2 = x := by split <;> rfl
theorem wi_bd1 {a : Int32} {n : Nat} {x : Int32} (c : sp_X8_within a 1 x = true) (hx : x = nI n) (hn : n < 2147483648) : bd a (n + 1) := by
  have := within_iff.mp c
  exact bd_in (m := n) (Int32.le_trans (by decide) this.1) (by rw [← hx]; exact this.2) hn (by omega)

def st_X8_days_19 (M : MT) (a0 : Int32) (i : Nat) (b19 : MT) : MT :=
  sp_X5_passDay b19 0
def sp_X8_days (M : MT) (a0 : Int32) : Int32 × MT :=
  if (sp_X8_within a0 1 60) = true then
    ((itN (tn a0) (st_X8_days_19 M a0) M).1 0 4 0, itN (tn a0) (st_X8_days_19 M a0) M)
  else
    ((sp_X8_refuse M (-2)).1, (sp_X8_refuse M (-2)).2)
set_option maxRecDepth 20000 in
theorem c_X8_days {K : KT} {M : MT} {a0 : Int32}  (hokx : OKX M) : CM K 3 yX8_days cX8_days 3 (some FieldType.int) [rf K 0, .int a0] M (some (.int (sp_X8_days M a0).1)) (sp_X8_days M a0).2 := by
  refine CM.ofI (by decide) [some (rf K 0), some (.int a0), none] rfl (Nat.le_of_ble_eq_true rfl) (Nat.le_of_ble_eq_true rfl) (fun G hG _ hret => ?_)
  obtain ⟨hok0, hok1, hoa2, hoa3, hoa4, hsh, htp⟩ := id hokx
  obtain ⟨hwc0, hpc0, ⟨hcl0, hcm0⟩, hwi0, hda0, hle0, hk80, ha80, hW0, hP0⟩ := id hok0
  have hwl0 := bd_lt hwc0
  have hpl0 := bd_lt hpc0
  have hcl0l := bd_lt hcl0
  refine r_iload_n (pc := 0) hG dX8_days_0 rfl ?_
  refine r_iconst (pc := 1) hG dX8_days_1 ic_1 ?_
  refine r_bipush (pc := 2) hG dX8_days_2 bc_60 ?_
  refine cs_X8_within (pc := 4)  hG dX8_days_4 tw_387 (c_X8_within) (by decide) (Nat.le_of_ble_eq_true rfl) ?_
  refine r_ifz_ne (pc := 7) (tgt := 17) hG dX8_days_7 (by decide) (fun c1 => ?_) (fun c1 => ?_)
  · refine r_iconst (pc := 17) hG dX8_days_17 ic_0 ?_
    refine r_istore_n (pc := 18) (ls' := [_, _, _]) hG dX8_days_18 rfl rfl ?_
    have hb19 : bd a0 61 := (wi_bd1 (n := 60) c1 rfl (Nat.le_of_ble_eq_true rfl))
    have hb19l := bd_lt hb19
    have lp19 : ∀ i, i ≤ (tn a0) → ∀ b19 : MT, b19 = itN i (st_X8_days_19 M a0) M → J G K b19 19 [some (rf K 0), some (.int a0), some (.int (nI i))] [] := by
      refine up_ind (tn a0) (fun i hi19 ih19 => ?_)
      intro b19 hg19
      have hok19 : OKs b19 0 := by subst hg19; exact itN_inv (fun m : MT => OKs m 0) i hok0 (fun k m hk hm => by unfold st_X8_days_19; exact OKs_passDay hm)
      refine r_iload_n (pc := 19) hG dX8_days_19 rfl ?_
      refine r_iload_n (pc := 20) hG dX8_days_20 rfl ?_
      refine r_icmp_ge (pc := 21) (tgt := 37) hG dX8_days_21 (by decide) (fun c2 => ?_) (fun c2 => ?_)
      · have e19 : i = (tn a0) := by have := (bd_le hb19 (by omega)).mp c2; omega
        subst hg19
        subst e19
        refine r_aload_n (pc := 37) hG dX8_days_37 rfl ?_
        refine gf_X8_live (pc := 38)  hG dX8_days_38 tw_355 ?_
        refine gf_X5_said (pc := 41) (by omega) hG dX8_days_41 tw_192 ?_
        exact hret _ _ _ _ dX8_days_44 (pair_fst (show sp_X8_days M a0 = ((itN (tn a0) (st_X8_days_19 M a0) M).1 0 4 0, itN (tn a0) (st_X8_days_19 M a0) M) from (by unfold sp_X8_days; exact (if_pos c1)))) (pair_snd (show sp_X8_days M a0 = ((itN (tn a0) (st_X8_days_19 M a0) M).1 0 4 0, itN (tn a0) (st_X8_days_19 M a0) M) from (by unfold sp_X8_days; exact (if_pos c1))))
      · have hl19 : i < (tn a0) := by have := mt (bd_le hb19 (by omega)).mpr c2; omega
        refine r_aload_n (pc := 24) hG dX8_days_24 rfl ?_
        refine gf_X8_live (pc := 25)  hG dX8_days_25 tw_355 ?_
        refine cv_X5_passDay (pc := 28) (by omega) hG dX8_days_28 tw_1118 (c_X5_passDay (by omega) hok19) (by decide) (Nat.le_of_ble_eq_true rfl) ?_
        refine r_iinc (pc := 31) (v := nI (i + 1)) (ls' := [_, _, _]) hG dX8_days_31 rfl (nI_1 _) rfl rfl ?_
        refine r_goto (pc := 34) (tgt := 19) hG dX8_days_34 (by decide) ?_
        have eN19 : sp_X5_passDay b19 0 = st_X8_days_19 M a0 i (itN i (st_X8_days_19 M a0) M) := by rw [← hg19]; unfold st_X8_days_19; exact Eq.symm rfl
        refine J.wk (ls' := [some (rf K 0), some (.int a0), some (.int (nI (i + 1)))]) ?_ (Eq.refl 3) (wk_s rfl (wk_s rfl (wk_s rfl wk_0)))
        exact ih19 hl19 (sp_X5_passDay b19 0) eN19
    exact (lp19 0 (Nat.zero_le _) _ rfl).wk (Eq.refl 3) (wk_s rfl (wk_s rfl (wk_s rfl wk_0)))
  · refine r_aload_n (pc := 10) hG dX8_days_10 rfl ?_
    refine r_bipush (pc := 11) hG dX8_days_11 bc_m2 ?_
    refine cv_X8_refuse (pc := 13)  hG dX8_days_13 tw_390 (c_X8_refuse (bd_lit (n := 7) (by decide))) (by decide) (Nat.le_of_ble_eq_true rfl) ?_
    exact hret _ _ _ _ dX8_days_16 (pair_fst (show sp_X8_days M a0 = ((sp_X8_refuse M (-2)).1, (sp_X8_refuse M (-2)).2) from (by unfold sp_X8_days; exact (if_neg c1)))) (pair_snd (show sp_X8_days M a0 = ((sp_X8_refuse M (-2)).1, (sp_X8_refuse M (-2)).2) from (by unfold sp_X8_days; exact (if_neg c1))))

def st_X8_drawn_38 (M : MT) (a0 : Int32) (i : Nat) (b38 : Int32 × MT) : Int32 × MT :=
  if ((sp_X5_carnival b38.2).1) = (-1) then
    (b38.1, (sp_X5_carnival b38.2).2)
  else
    (b38.1 + 1, (sp_X5_carnival b38.2).2)
def sp_X8_drawn (M : MT) (a0 : Int32) : Int32 × MT :=
  if (sp_X8_within a0 1 40) = true then
    if (M.1 0 0 0) = 0 then
      ((sp_X8_refuse M (-5)).1, (sp_X8_refuse M (-5)).2)
    else
      ((itN (tn a0) (st_X8_drawn_38 M a0) (0, M)).1, (itN (tn a0) (st_X8_drawn_38 M a0) (0, M)).2)
  else
    ((sp_X8_refuse M (-2)).1, (sp_X8_refuse M (-2)).2)
set_option maxRecDepth 20000 in
theorem c_X8_drawn {K : KT} {M : MT} {a0 : Int32}  (hokx : OKX M) : CM K 7 yX8_drawn cX8_drawn 4 (some FieldType.int) [rf K 0, .int a0] M (some (.int (sp_X8_drawn M a0).1)) (sp_X8_drawn M a0).2 := by
  refine CM.ofI (by decide) [some (rf K 0), some (.int a0), none, none] rfl (Nat.le_of_ble_eq_true rfl) (Nat.le_of_ble_eq_true rfl) (fun G hG _ hret => ?_)
  obtain ⟨hok0, hok1, hoa2, hoa3, hoa4, hsh, htp⟩ := id hokx
  obtain ⟨hwc0, hpc0, ⟨hcl0, hcm0⟩, hwi0, hda0, hle0, hk80, ha80, hW0, hP0⟩ := id hok0
  have hwl0 := bd_lt hwc0
  have hpl0 := bd_lt hpc0
  have hcl0l := bd_lt hcl0
  refine r_iload_n (pc := 0) hG dX8_drawn_0 rfl ?_
  refine r_iconst (pc := 1) hG dX8_drawn_1 ic_1 ?_
  refine r_bipush (pc := 2) hG dX8_drawn_2 bc_40 ?_
  refine cs_X8_within (pc := 4)  hG dX8_drawn_4 tw_387 (c_X8_within) (by decide) (Nat.le_of_ble_eq_true rfl) ?_
  refine r_ifz_ne (pc := 7) (tgt := 17) hG dX8_drawn_7 (by decide) (fun c1 => ?_) (fun c1 => ?_)
  · refine r_aload_n (pc := 17) hG dX8_drawn_17 rfl ?_
    refine gf_X8_live (pc := 18)  hG dX8_drawn_18 tw_355 ?_
    refine gf_X5_windowCount (pc := 21) (by omega) hG dX8_drawn_21 tw_172 ?_
    refine r_if_ne (pc := 24) (tgt := 34) hG dX8_drawn_24 (by decide) (fun c2 => ?_) (fun c2 => ?_)
    · refine r_iconst (pc := 34) hG dX8_drawn_34 ic_0 ?_
      refine r_istore_n (pc := 35) (ls' := [_, _, _, _]) hG dX8_drawn_35 rfl rfl ?_
      refine r_iconst (pc := 36) hG dX8_drawn_36 ic_0 ?_
      refine r_istore_n (pc := 37) (ls' := [_, _, _, _]) hG dX8_drawn_37 rfl rfl ?_
      have hb38 : bd a0 41 := (wi_bd1 (n := 40) c1 rfl (Nat.le_of_ble_eq_true rfl))
      have hb38l := bd_lt hb38
      have lp38 : ∀ i, i ≤ (tn a0) → ∀ b38 : Int32 × MT, b38 = itN i (st_X8_drawn_38 M a0) (0, M) → J G K b38.2 38 [some (rf K 0), some (.int a0), some (.int b38.1), some (.int (nI i))] [] := by
        refine up_ind (tn a0) (fun i hi38 ih38 => ?_)
        intro b38 hg38
        have hok38 : OKs b38.2 0 ∧ ¬ b38.2.1 0 0 0 = 0 := by subst hg38; exact itN_inv (fun x : Int32 × MT => OKs x.2 0 ∧ ¬ x.2.1 0 0 0 = 0) i ⟨hok0, c2⟩ (fun k m hk hm => carn_st ((congrArg Prod.snd (st_X8_drawn_38.eq_1 M a0 k m)).trans ite_snd) hm)
        refine r_iload_n (pc := 38) hG dX8_drawn_38 rfl ?_
        refine r_iload_n (pc := 39) hG dX8_drawn_39 rfl ?_
        refine r_icmp_ge (pc := 40) (tgt := 63) hG dX8_drawn_40 (by decide) (fun c3 => ?_) (fun c3 => ?_)
        · have e38 : i = (tn a0) := by have := (bd_le hb38 (by omega)).mp c3; omega
          subst hg38
          subst e38
          refine r_iload_n (pc := 63) hG dX8_drawn_63 rfl ?_
          exact hret _ _ _ _ dX8_drawn_64 (pair_fst (show sp_X8_drawn M a0 = ((itN (tn a0) (st_X8_drawn_38 M a0) (0, M)).1, (itN (tn a0) (st_X8_drawn_38 M a0) (0, M)).2) from (by unfold sp_X8_drawn; exact ((if_pos c1).trans (if_neg c2))))) (pair_snd (show sp_X8_drawn M a0 = ((itN (tn a0) (st_X8_drawn_38 M a0) (0, M)).1, (itN (tn a0) (st_X8_drawn_38 M a0) (0, M)).2) from (by unfold sp_X8_drawn; exact ((if_pos c1).trans (if_neg c2)))))
        · have hl38 : i < (tn a0) := by have := mt (bd_le hb38 (by omega)).mpr c3; omega
          refine r_aload_n (pc := 43) hG dX8_drawn_43 rfl ?_
          refine gf_X8_live (pc := 44)  hG dX8_drawn_44 tw_355 ?_
          refine cv_X5_carnival (pc := 47) (by omega) hG dX8_drawn_47 tw_1129 (c_X5_carnival hok38.1 hok38.2) (by decide) (Nat.le_of_ble_eq_true rfl) ?_
          refine r_iconst (pc := 50) hG dX8_drawn_50 ic_m1 ?_
          refine r_icmp_eq (pc := 51) (tgt := 57) hG dX8_drawn_51 (by decide) (fun c4 => ?_) (fun c4 => ?_)
          · refine r_iinc (pc := 57) (v := nI (i + 1)) (ls' := [_, _, _, _]) hG dX8_drawn_57 rfl (nI_1 _) rfl rfl ?_
            refine r_goto (pc := 60) (tgt := 38) hG dX8_drawn_60 (by decide) ?_
            have eN38 : (b38.1, (sp_X5_carnival b38.2).2) = st_X8_drawn_38 M a0 i (itN i (st_X8_drawn_38 M a0) (0, M)) := by rw [← hg38]; unfold st_X8_drawn_38; exact Eq.symm (if_pos c4)
            refine J.wk (ls' := [some (rf K 0), some (.int a0), some (.int b38.1), some (.int (nI (i + 1)))]) ?_ (Eq.refl 4) (wk_s rfl (wk_s rfl (wk_s rfl (wk_s rfl wk_0))))
            obtain ⟨p38, hp38⟩ : ∃ p, p = (b38.1, (sp_X5_carnival b38.2).2) := ⟨_, rfl⟩
            have q38 := ih38 hl38 p38 (hp38.trans (eN38.trans (itN_s i (st_X8_drawn_38 M a0) (0, M)).symm))
            rw [← pair_snd hp38, ← pair_fst hp38] at q38
            exact q38
          · refine r_iinc (pc := 54) (v := b38.1 + 1) (ls' := [_, _, _, _]) hG dX8_drawn_54 rfl rfl rfl rfl ?_
            refine r_iinc (pc := 57) (v := nI (i + 1)) (ls' := [_, _, _, _]) hG dX8_drawn_57 rfl (nI_1 _) rfl rfl ?_
            refine r_goto (pc := 60) (tgt := 38) hG dX8_drawn_60 (by decide) ?_
            have eN38 : (b38.1 + 1, (sp_X5_carnival b38.2).2) = st_X8_drawn_38 M a0 i (itN i (st_X8_drawn_38 M a0) (0, M)) := by rw [← hg38]; unfold st_X8_drawn_38; exact Eq.symm (if_neg c4)
            refine J.wk (ls' := [some (rf K 0), some (.int a0), some (.int (b38.1 + 1)), some (.int (nI (i + 1)))]) ?_ (Eq.refl 4) (wk_s rfl (wk_s rfl (wk_s rfl (wk_s rfl wk_0))))
            obtain ⟨p38, hp38⟩ : ∃ p, p = (b38.1 + 1, (sp_X5_carnival b38.2).2) := ⟨_, rfl⟩
            have q38 := ih38 hl38 p38 (hp38.trans (eN38.trans (itN_s i (st_X8_drawn_38 M a0) (0, M)).symm))
            rw [← pair_snd hp38, ← pair_fst hp38] at q38
            exact q38
      exact (lp38 0 (Nat.zero_le _) _ rfl).wk (Eq.refl 4) (wk_s rfl (wk_s rfl (wk_s rfl (wk_s rfl wk_0))))
    · refine r_aload_n (pc := 27) hG dX8_drawn_27 rfl ?_
      refine r_bipush (pc := 28) hG dX8_drawn_28 bc_m5 ?_
      refine cv_X8_refuse (pc := 30)  hG dX8_drawn_30 tw_390 (c_X8_refuse (bd_lit (n := 7) (by decide))) (by decide) (Nat.le_of_ble_eq_true rfl) ?_
      exact hret _ _ _ _ dX8_drawn_33 (pair_fst (show sp_X8_drawn M a0 = ((sp_X8_refuse M (-5)).1, (sp_X8_refuse M (-5)).2) from (by unfold sp_X8_drawn; exact ((if_pos c1).trans (if_pos c2))))) (pair_snd (show sp_X8_drawn M a0 = ((sp_X8_refuse M (-5)).1, (sp_X8_refuse M (-5)).2) from (by unfold sp_X8_drawn; exact ((if_pos c1).trans (if_pos c2)))))
  · refine r_aload_n (pc := 10) hG dX8_drawn_10 rfl ?_
    refine r_bipush (pc := 11) hG dX8_drawn_11 bc_m2 ?_
    refine cv_X8_refuse (pc := 13)  hG dX8_drawn_13 tw_390 (c_X8_refuse (bd_lit (n := 7) (by decide))) (by decide) (Nat.le_of_ble_eq_true rfl) ?_
    exact hret _ _ _ _ dX8_drawn_16 (pair_fst (show sp_X8_drawn M a0 = ((sp_X8_refuse M (-2)).1, (sp_X8_refuse M (-2)).2) from (by unfold sp_X8_drawn; exact (if_neg c1)))) (pair_snd (show sp_X8_drawn M a0 = ((sp_X8_refuse M (-2)).1, (sp_X8_refuse M (-2)).2) from (by unfold sp_X8_drawn; exact (if_neg c1))))

def st_X8_back_27 (M : MT) (i : Nat) (b27 : MT) : MT :=
  if (b27.2.1 10 i) < (b27.1 0 1 0) then
    b27
  else
    sp_X4_takePerson b27 i (-1)
def sp_X8_back (M : MT) : Int32 × MT :=
  if (M.2.1 0 0) = 0 then
    ((sp_X8_refuse M (-5)).1, (sp_X8_refuse M (-5)).2)
  else
    (1, itN 8 (st_X8_back_27 M) (cpM M 0 1))
set_option maxRecDepth 20000 in
theorem c_X8_back {K : KT} {M : MT}   (hokx : OKX M) : CM K 3 yX8_back cX8_back 2 (some FieldType.int) [rf K 0] M (some (.int (sp_X8_back M).1)) (sp_X8_back M).2 := by
  refine CM.ofI (by decide) [some (rf K 0), none] rfl (Nat.le_of_ble_eq_true rfl) (Nat.le_of_ble_eq_true rfl) (fun G hG _ hret => ?_)
  obtain ⟨hok0, hok1, hoa2, hoa3, hoa4, hsh, htp⟩ := id hokx
  obtain ⟨hwc0, hpc0, ⟨hcl0, hcm0⟩, hwi0, hda0, hle0, hk80, ha80, hW0, hP0⟩ := id hok0
  have hwl0 := bd_lt hwc0
  have hpl0 := bd_lt hpc0
  have hcl0l := bd_lt hcl0
  refine r_aload_n (pc := 0) hG dX8_back_0 rfl ?_
  refine gf_X8_somethingKept (pc := 1)  hG dX8_back_1 tw_362 ?_
  refine r_if_ne (pc := 4) (tgt := 14) hG dX8_back_4 (by decide) (fun c1 => ?_) (fun c1 => ?_)
  · refine r_aload_n (pc := 14) hG dX8_back_14 rfl ?_
    refine gf_X8_live (pc := 15)  hG dX8_back_15 tw_355 ?_
    refine r_aload_n (pc := 18) hG dX8_back_18 rfl ?_
    refine gf_X8_kept (pc := 19)  hG dX8_back_19 tw_356 ?_
    refine cv_X5_copyFrom (pc := 22) (by omega) hG dX8_back_22 tw_529 (c_X5_copyM (by omega) (by omega) (by decide) hok1) (by decide) (Nat.le_of_ble_eq_true rfl) ?_
    refine r_iconst (pc := 25) hG dX8_back_25 ic_0 ?_
    refine r_istore_n (pc := 26) (ls' := [_, _]) hG dX8_back_26 rfl rfl ?_
    have lp27 : ∀ i, i ≤ 8 → ∀ b27 : MT, b27 = itN i (st_X8_back_27 M) (cpM M 0 1) → J G K b27 27 [some (rf K 0), some (.int (nI i))] [] := by
      refine up_ind 8 (fun i hi27 ih27 => ?_)
      intro b27 hg27
      refine r_iload_n (pc := 27) hG dX8_back_27 rfl ?_
      refine r_bipush (pc := 28) hG dX8_back_28 bc_8 ?_
      refine r_icmp_ge (pc := 30) (tgt := 68) hG dX8_back_30 (by decide) (fun c2 => ?_) (fun c2 => ?_)
      · have e27 : i = 8 := by have := (le_nI (k := 8) (i := i) (Nat.le_of_ble_eq_true rfl) (by omega)).mp c2; omega
        subst hg27
        subst e27
        refine r_iconst (pc := 68) hG dX8_back_68 ic_1 ?_
        exact hret _ _ _ _ dX8_back_69 (pair_fst (show sp_X8_back M = (1, itN 8 (st_X8_back_27 M) (cpM M 0 1)) from (by unfold sp_X8_back; exact (if_neg c1)))) (pair_snd (show sp_X8_back M = (1, itN 8 (st_X8_back_27 M) (cpM M 0 1)) from (by unfold sp_X8_back; exact (if_neg c1))))
      · have hl27 : i < 8 := by have := mt (le_nI (k := 8) (i := i) (Nat.le_of_ble_eq_true rfl) (by omega)).mpr c2; omega
        refine r_aload_n (pc := 33) hG dX8_back_33 rfl ?_
        refine gf_X8_shelves (pc := 34)  hG dX8_back_34 tw_360 ?_
        refine r_iload_n (pc := 37) hG dX8_back_37 rfl ?_
        refine aa_Xsh (pc := 38)  hG dX8_back_38 (ix_nI (by omega) (Nat.le_of_ble_eq_true rfl)) ?_
        refine gf_X4_person (pc := 39) (by omega) hG dX8_back_39 tw_347 ?_
        refine r_aload_n (pc := 42) hG dX8_back_42 rfl ?_
        refine gf_X8_live (pc := 43)  hG dX8_back_43 tw_355 ?_
        refine gf_X5_personCount (pc := 46) (by omega) hG dX8_back_46 tw_176 ?_
        refine r_icmp_lt (pc := 49) (tgt := 62) hG dX8_back_49 (by decide) (fun c3 => ?_) (fun c3 => ?_)
        · refine r_iinc (pc := 62) (v := nI (i + 1)) (ls' := [_, _]) hG dX8_back_62 rfl (nI_1 _) rfl rfl ?_
          refine r_goto (pc := 65) (tgt := 27) hG dX8_back_65 (by decide) ?_
          have eN27 : b27 = st_X8_back_27 M i (itN i (st_X8_back_27 M) (cpM M 0 1)) := by rw [← hg27]; unfold st_X8_back_27; exact Eq.symm (if_pos c3)
          refine J.wk (ls' := [some (rf K 0), some (.int (nI (i + 1)))]) ?_ (Eq.refl 2) (wk_s rfl (wk_s rfl wk_0))
          exact ih27 hl27 b27 eN27
        · refine r_aload_n (pc := 52) hG dX8_back_52 rfl ?_
          refine gf_X8_shelves (pc := 53)  hG dX8_back_53 tw_360 ?_
          refine r_iload_n (pc := 56) hG dX8_back_56 rfl ?_
          refine aa_Xsh (pc := 57)  hG dX8_back_57 (ix_nI (by omega) (Nat.le_of_ble_eq_true rfl)) ?_
          refine r_iconst (pc := 58) hG dX8_back_58 ic_m1 ?_
          refine cv_X4_takePerson (pc := 59) (by omega) hG dX8_back_59 tw_447 (c_X4_takePerson (by omega)) (by decide) (Nat.le_of_ble_eq_true rfl) ?_
          refine r_iinc (pc := 62) (v := nI (i + 1)) (ls' := [_, _]) hG dX8_back_62 rfl (nI_1 _) rfl rfl ?_
          refine r_goto (pc := 65) (tgt := 27) hG dX8_back_65 (by decide) ?_
          have eN27 : sp_X4_takePerson b27 i (-1) = st_X8_back_27 M i (itN i (st_X8_back_27 M) (cpM M 0 1)) := by rw [← hg27]; unfold st_X8_back_27; exact Eq.symm (if_neg c3)
          refine J.wk (ls' := [some (rf K 0), some (.int (nI (i + 1)))]) ?_ (Eq.refl 2) (wk_s rfl (wk_s rfl wk_0))
          exact ih27 hl27 (sp_X4_takePerson b27 i (-1)) eN27
    exact (lp27 0 (Nat.zero_le _) _ rfl).wk (Eq.refl 2) (wk_s rfl (wk_s rfl wk_0))
  · refine r_aload_n (pc := 7) hG dX8_back_7 rfl ?_
    refine r_bipush (pc := 8) hG dX8_back_8 bc_m5 ?_
    refine cv_X8_refuse (pc := 10)  hG dX8_back_10 tw_390 (c_X8_refuse (bd_lit (n := 7) (by decide))) (by decide) (Nat.le_of_ble_eq_true rfl) ?_
    exact hret _ _ _ _ dX8_back_13 (pair_fst (show sp_X8_back M = ((sp_X8_refuse M (-5)).1, (sp_X8_refuse M (-5)).2) from (by unfold sp_X8_back; exact (if_pos c1)))) (pair_snd (show sp_X8_back M = ((sp_X8_refuse M (-5)).1, (sp_X8_refuse M (-5)).2) from (by unfold sp_X8_back; exact (if_pos c1))))

theorem told_t {x : Int64} {wc : Int32} (hw : bd wc 9) (h0 : ¬ x < 0) (h1 : ¬ (Int32.toInt64 wc) ≤ x / 100) : tn (Int64.toInt32 x / 100) < tn wc := by
  obtain ⟨k, hk, rfl, h⟩ := told_k hw h0 h1
  have hl := bd_lt hw
  rw [lN_i, show (nI k / 100 : Int32) = nI (k / 100) from pk_div (by omega) (by decide) (by decide), tn_nI (by omega)]
  exact h
theorem fw_told {M : MT} {s t : Nat} {a b : Int32} (ha : bd a 41) (q : sp_X5_firstWrong M s t a b = -1) : ∀ i, i < tn a → sp_X5_isToldThrow M s (M.2.2 t (tn (nI i * b))) = true := by
  intro i hi
  have hl := bd_lt ha
  unfold sp_X5_firstWrong at q
  rcases fndN_cases (P := ps_X5_firstWrong_3 M s t a b) (A := fun i => (if (sp_X5_isToldThrow M s (M.2.2 t (tn ((nI i) * b)))) = true then (-1) else nI i)) (B := (-1)) (tn a) 0 with ⟨_, h2⟩ | ⟨j, h1, h2, h3, h4, h5⟩
  · have := h2 i (Nat.zero_le _) (by omega)
    unfold ps_X5_firstWrong_3 at this
    split at this
    · rename_i z; exact z
    · cases this
  · exfalso
    rw [h5] at q
    unfold ps_X5_firstWrong_3 at h3
    split at h3
    · cases h3
    · rename_i z
      rw [if_neg z] at q
      have := Int32.toInt_inj.mpr q
      rw [nI_toInt (by omega)] at this
      have e : (-1 : Int32).toInt = -1 := by decide
      rw [e] at this
      omega
theorem isT_t {M : MT} {s : Nat} {x : Int64} (hw : bd (M.1 s 0 0) 9) (q : sp_X5_isToldThrow M s x = true) : bd (Int64.toInt32 x / 100) 8 ∧ tn (Int64.toInt32 x / 100) < tn (M.1 s 0 0) := by
  unfold sp_X5_isToldThrow at q
  split at q
  · cases q
  · rename_i h0
    split at q
    · cases q
    · rename_i h1
      exact ⟨told_bd hw h0 h1, told_t hw h0 h1⟩
theorem fw_fol {M : MT} {s t : Nat} {a : Int32} (h : bd (M.1 s 0 0) 9) (ha : bd a 41) (q : sp_X5_firstWrong M s t a 1 = -1) : ∀ i, i < tn a → bd ((Int64.toInt32 (M.2.2 t i)) / 100) 8 ∧ tn ((Int64.toInt32 (M.2.2 t i)) / 100) < tn (M.1 s 0 0) := by
  intro i hi
  have hl := bd_lt ha
  have := isT_t h (fw_told ha q i hi)
  rw [Int32.mul_one, tn_nI (by omega)] at this
  exact this

def folF (M X : MT) : Prop := OKs X 2 ∧ X.2.2 = M.2.2 ∧ X.1 2 0 0 = M.1 2 0 0
theorem fol_u2 {X M : MT} {b c : Nat} {v : Int32} (h : folF M X) : folF M (u2 X b c v) := ⟨OKs_congr (M := X) h.1 rfl, h.2.1, h.2.2⟩
theorem fol_th {X M : MT} {a b c : Int32} (h : folF M X) (ha : bd a 8 ∧ tn a < tn (M.1 2 0 0)) : folF M (sp_X5_throwRose X 2 a b c).2 :=
  ⟨OKs_throw2 h.1 ha.1 (by rw [h.2.2]; exact ha.2), (congrArg Prod.snd th_J).trans h.2.1, th_0.trans h.2.2⟩
theorem fol_ite {F : MT → Prop} {c d : Prop} [Decidable c] [Decidable d] {x y z : MT} (h1 : F x) (h2 : F y) (h3 : F z) : F (if c then x else if d then y else z) := by
  split
  · exact h1
  · split
    · exact h2
    · exact h3

def st_X0_follow_17 (M : MT) (t0 : Nat) (a1 : Int32) (i : Nat) (b17 : MT) : MT :=
  if (sp_X5_landing b17 2 ((Int64.toInt32 (b17.2.2 t0 i)) / 100) (irm ((Int64.toInt32 (b17.2.2 t0 i)) / 10) 10) (irm (Int64.toInt32 (b17.2.2 t0 i)) 10)) = (-1) then
    u2 b17 2 4 ((b17.2.1 2 4) + 1)
  else
    if ((sp_X5_throwRose b17 2 ((Int64.toInt32 (b17.2.2 t0 i)) / 100) (irm ((Int64.toInt32 (b17.2.2 t0 i)) / 10) 10) (irm (Int64.toInt32 (b17.2.2 t0 i)) 10)).1) = (-1) then
      u2 ((sp_X5_throwRose b17 2 ((Int64.toInt32 (b17.2.2 t0 i)) / 100) (irm ((Int64.toInt32 (b17.2.2 t0 i)) / 10) 10) (irm (Int64.toInt32 (b17.2.2 t0 i)) 10)).2) 2 3 ((((sp_X5_throwRose b17 2 ((Int64.toInt32 (b17.2.2 t0 i)) / 100) (irm ((Int64.toInt32 (b17.2.2 t0 i)) / 10) 10) (irm (Int64.toInt32 (b17.2.2 t0 i)) 10)).2).2.1 2 3) + 1)
    else
      u2 ((sp_X5_throwRose b17 2 ((Int64.toInt32 (b17.2.2 t0 i)) / 100) (irm ((Int64.toInt32 (b17.2.2 t0 i)) / 10) 10) (irm (Int64.toInt32 (b17.2.2 t0 i)) 10)).2) 2 2 ((((sp_X5_throwRose b17 2 ((Int64.toInt32 (b17.2.2 t0 i)) / 100) (irm ((Int64.toInt32 (b17.2.2 t0 i)) / 10) 10) (irm (Int64.toInt32 (b17.2.2 t0 i)) 10)).2).2.1 2 2) + 1)
def sp_X0_follow (M : MT) (t0 : Nat) (a1 : Int32) : MT :=
  (itN (tn a1) (st_X0_follow_17 M t0 a1) (u2 (u2 (u2 M 2 2 0) 2 3 0) 2 4 0))
set_option maxRecDepth 20000 in
theorem c_X0_follow {K : KT} {M : MT} {t0 : Nat} {a1 : Int32} (ht0 : t0 < 8) (ha1b : bd (a1) 41) (hok2 : OKs M 2) (hrw : ∀ i, i < tn a1 → bd ((Int64.toInt32 (M.2.2 t0 i)) / 100) 8 ∧ tn ((Int64.toInt32 (M.2.2 t0 i)) / 100) < tn (M.1 2 0 0)) : CM K 6 yX0_follow cX0_follow 8 none [rf K 3, rf K (iR t0), .int a1] M none (sp_X0_follow M t0 a1) := by
  refine CM.ofV (by decide) [some (rf K 3), some (rf K (iR t0)), some (.int a1), none, none, none, none, none] rfl (Nat.le_of_ble_eq_true rfl) (Nat.le_of_ble_eq_true rfl) (fun G hG _ hret => ?_)
  obtain ⟨hwc2, hpc2, ⟨hcl2, hcm2⟩, hwi2, hda2, hle2, hk82, ha82, hW2, hP2⟩ := id hok2
  have hwl2 := bd_lt hwc2
  have hpl2 := bd_lt hpc2
  have hcl2l := bd_lt hcl2
  refine r_aload_n (pc := 0) hG dX0_follow_0 rfl ?_
  refine r_iconst (pc := 1) hG dX0_follow_1 ic_0 ?_
  refine pf_X0_logCaught (pc := 2)  hG dX0_follow_2 tw_231 ?_
  refine r_aload_n (pc := 5) hG dX0_follow_5 rfl ?_
  refine r_iconst (pc := 6) hG dX0_follow_6 ic_0 ?_
  refine pf_X0_logLying (pc := 7)  hG dX0_follow_7 tw_233 ?_
  refine r_aload_n (pc := 10) hG dX0_follow_10 rfl ?_
  refine r_iconst (pc := 11) hG dX0_follow_11 ic_0 ?_
  refine pf_X0_logOff (pc := 12)  hG dX0_follow_12 tw_235 ?_
  refine r_iconst (pc := 15) hG dX0_follow_15 ic_0 ?_
  refine r_istore_n (pc := 16) (ls' := [_, _, _, _, _, _, _, _]) hG dX0_follow_16 rfl rfl ?_
  have hb17 : bd a1 41 := ha1b
  have hb17l := bd_lt hb17
  have lp17 : ∀ i, i ≤ (tn a1) → ∀ b17 : MT, b17 = itN i (st_X0_follow_17 M t0 a1) (u2 (u2 (u2 M 2 2 0) 2 3 0) 2 4 0) → J G K b17 17 [some (rf K 3), some (rf K (iR t0)), some (.int a1), some (.int (nI i)), none, none, none, none] [] := by
    refine up_ind (tn a1) (fun i hi17 ih17 => ?_)
    intro b17 hg17
    have hq17 : OKs b17 2 ∧ b17.2.2 = M.2.2 ∧ b17.1 2 0 0 = M.1 2 0 0 := by subst hg17; exact itN_inv (folF M) i (fol_u2 (fol_u2 (fol_u2 ⟨hok2, rfl, rfl⟩))) (fun k m hk hm => by have hr : bd ((Int64.toInt32 (m.2.2 t0 k)) / 100) 8 ∧ tn ((Int64.toInt32 (m.2.2 t0 k)) / 100) < tn (M.1 2 0 0) := (by rw [hm.2.1]; exact hrw k (by omega)); unfold st_X0_follow_17; exact fol_ite (F := folF M) (fol_u2 hm) (fol_u2 (fol_th hm hr)) (fol_u2 (fol_th hm hr)))
    refine r_iload_n (pc := 17) hG dX0_follow_17 rfl ?_
    refine r_iload_n (pc := 18) hG dX0_follow_18 rfl ?_
    refine r_icmp_ge (pc := 19) (tgt := 131) hG dX0_follow_19 (by decide) (fun c1 => ?_) (fun c1 => ?_)
    · have e17 : i = (tn a1) := by have := (bd_le hb17 (by omega)).mp c1; omega
      subst hg17
      subst e17
      exact hret _ _ _ dX0_follow_131 (Eq.symm (by unfold sp_X0_follow; exact rfl))
    · have hl17 : i < (tn a1) := by have := mt (bd_le hb17 (by omega)).mpr c1; omega
      refine r_aload_n (pc := 22) hG dX0_follow_22 rfl ?_
      refine gf_X3_elements (pc := 23) ht0 hG dX0_follow_23 tw_326 ?_
      refine r_iload_n (pc := 26) hG dX0_follow_26 rfl ?_
      refine al_Ele (pc := 27) ht0 hG dX0_follow_27 (ix_nI (by omega) (Nat.le_of_ble_eq_true rfl)) ?_
      refine r_l2i (pc := 28) hG dX0_follow_28 ?_
      refine r_istore (pc := 29) (ls' := [_, _, _, _, _, _, _, _]) hG dX0_follow_29 rfl rfl ?_
      refine r_iload (pc := 31) hG dX0_follow_31 rfl ?_
      refine r_bipush (pc := 33) hG dX0_follow_33 bc_100 ?_
      refine r_idiv (pc := 35) hG dX0_follow_35 (by decide) ?_
      refine r_istore (pc := 36) (ls' := [_, _, _, _, _, _, _, _]) hG dX0_follow_36 rfl rfl ?_
      refine r_iload (pc := 38) hG dX0_follow_38 rfl ?_
      refine r_bipush (pc := 40) hG dX0_follow_40 bc_10 ?_
      refine r_idiv (pc := 42) hG dX0_follow_42 (by decide) ?_
      refine r_bipush (pc := 43) hG dX0_follow_43 bc_10 ?_
      refine r_irem (pc := 45) hG dX0_follow_45 (by decide) ?_
      refine r_istore (pc := 46) (ls' := [_, _, _, _, _, _, _, _]) hG dX0_follow_46 rfl rfl ?_
      refine r_iload (pc := 48) hG dX0_follow_48 rfl ?_
      refine r_bipush (pc := 50) hG dX0_follow_50 bc_10 ?_
      refine r_irem (pc := 52) hG dX0_follow_52 (by decide) ?_
      refine r_istore (pc := 53) (ls' := [_, _, _, _, _, _, _, _]) hG dX0_follow_53 rfl rfl ?_
      refine r_aload_n (pc := 55) hG dX0_follow_55 rfl ?_
      refine gf_X0_draft (pc := 56)  hG dX0_follow_56 tw_224 ?_
      refine r_iload (pc := 59) hG dX0_follow_59 rfl ?_
      refine r_iload (pc := 61) hG dX0_follow_61 rfl ?_
      refine r_iload (pc := 63) hG dX0_follow_63 rfl ?_
      refine cv_X5_landing (pc := 65) (by omega) hG dX0_follow_65 tw_885 (c_X5_landing (by omega) (by rw [hq17.2.1]; exact (hrw i hl17).1)) (by decide) (Nat.le_of_ble_eq_true rfl) ?_
      refine r_iconst (pc := 68) hG dX0_follow_68 ic_m1 ?_
      refine r_icmp_ne (pc := 69) (tgt := 85) hG dX0_follow_69 (by decide) (fun c2 => ?_) (fun c2 => ?_)
      · refine r_aload_n (pc := 85) hG dX0_follow_85 rfl ?_
        refine gf_X0_draft (pc := 86)  hG dX0_follow_86 tw_224 ?_
        refine r_iload (pc := 89) hG dX0_follow_89 rfl ?_
        refine r_iload (pc := 91) hG dX0_follow_91 rfl ?_
        refine r_iload (pc := 93) hG dX0_follow_93 rfl ?_
        refine cv_X5_throwRose (pc := 95) (by omega) hG dX0_follow_95 tw_1105 (c_X5_throwRose (by omega) (by rw [hq17.2.1]; exact (hrw i hl17).1) hq17.1) (by decide) (Nat.le_of_ble_eq_true rfl) ?_
        refine r_iconst (pc := 98) hG dX0_follow_98 ic_m1 ?_
        refine r_icmp_ne (pc := 99) (tgt := 115) hG dX0_follow_99 (by decide) (fun c3 => ?_) (fun c3 => ?_)
        · refine r_aload_n (pc := 115) hG dX0_follow_115 rfl ?_
          refine r_dup (pc := 116) hG dX0_follow_116 rfl ?_
          refine gf_X0_logCaught (pc := 117)  hG dX0_follow_117 tw_231 ?_
          refine r_iconst (pc := 120) hG dX0_follow_120 ic_1 ?_
          refine r_iadd (pc := 121) hG dX0_follow_121 ?_
          refine pf_X0_logCaught (pc := 122)  hG dX0_follow_122 tw_231 ?_
          refine r_iinc (pc := 125) (v := nI (i + 1)) (ls' := [_, _, _, _, _, _, _, _]) hG dX0_follow_125 rfl (nI_1 _) rfl rfl ?_
          refine r_goto (pc := 128) (tgt := 17) hG dX0_follow_128 (by decide) ?_
          have eN17 : u2 ((sp_X5_throwRose b17 2 ((Int64.toInt32 (b17.2.2 t0 i)) / 100) (irm ((Int64.toInt32 (b17.2.2 t0 i)) / 10) 10) (irm (Int64.toInt32 (b17.2.2 t0 i)) 10)).2) 2 2 ((((sp_X5_throwRose b17 2 ((Int64.toInt32 (b17.2.2 t0 i)) / 100) (irm ((Int64.toInt32 (b17.2.2 t0 i)) / 10) 10) (irm (Int64.toInt32 (b17.2.2 t0 i)) 10)).2).2.1 2 2) + 1) = st_X0_follow_17 M t0 a1 i (itN i (st_X0_follow_17 M t0 a1) (u2 (u2 (u2 M 2 2 0) 2 3 0) 2 4 0)) := by rw [← hg17]; unfold st_X0_follow_17; exact Eq.symm ((if_neg c2).trans (if_neg c3))
          refine J.wk (ls' := [some (rf K 3), some (rf K (iR t0)), some (.int a1), some (.int (nI (i + 1))), none, none, none, none]) ?_ (Eq.refl 8) (wk_s rfl (wk_s rfl (wk_s rfl (wk_s rfl (wk_n (wk_n (wk_n (wk_n wk_0))))))))
          exact ih17 hl17 (u2 ((sp_X5_throwRose b17 2 ((Int64.toInt32 (b17.2.2 t0 i)) / 100) (irm ((Int64.toInt32 (b17.2.2 t0 i)) / 10) 10) (irm (Int64.toInt32 (b17.2.2 t0 i)) 10)).2) 2 2 ((((sp_X5_throwRose b17 2 ((Int64.toInt32 (b17.2.2 t0 i)) / 100) (irm ((Int64.toInt32 (b17.2.2 t0 i)) / 10) 10) (irm (Int64.toInt32 (b17.2.2 t0 i)) 10)).2).2.1 2 2) + 1)) eN17
        · refine r_aload_n (pc := 102) hG dX0_follow_102 rfl ?_
          refine r_dup (pc := 103) hG dX0_follow_103 rfl ?_
          refine gf_X0_logLying (pc := 104)  hG dX0_follow_104 tw_233 ?_
          refine r_iconst (pc := 107) hG dX0_follow_107 ic_1 ?_
          refine r_iadd (pc := 108) hG dX0_follow_108 ?_
          refine pf_X0_logLying (pc := 109)  hG dX0_follow_109 tw_233 ?_
          refine r_goto (pc := 112) (tgt := 125) hG dX0_follow_112 (by decide) ?_
          refine r_iinc (pc := 125) (v := nI (i + 1)) (ls' := [_, _, _, _, _, _, _, _]) hG dX0_follow_125 rfl (nI_1 _) rfl rfl ?_
          refine r_goto (pc := 128) (tgt := 17) hG dX0_follow_128 (by decide) ?_
          have eN17 : u2 ((sp_X5_throwRose b17 2 ((Int64.toInt32 (b17.2.2 t0 i)) / 100) (irm ((Int64.toInt32 (b17.2.2 t0 i)) / 10) 10) (irm (Int64.toInt32 (b17.2.2 t0 i)) 10)).2) 2 3 ((((sp_X5_throwRose b17 2 ((Int64.toInt32 (b17.2.2 t0 i)) / 100) (irm ((Int64.toInt32 (b17.2.2 t0 i)) / 10) 10) (irm (Int64.toInt32 (b17.2.2 t0 i)) 10)).2).2.1 2 3) + 1) = st_X0_follow_17 M t0 a1 i (itN i (st_X0_follow_17 M t0 a1) (u2 (u2 (u2 M 2 2 0) 2 3 0) 2 4 0)) := by rw [← hg17]; unfold st_X0_follow_17; exact Eq.symm ((if_neg c2).trans (if_pos c3))
          refine J.wk (ls' := [some (rf K 3), some (rf K (iR t0)), some (.int a1), some (.int (nI (i + 1))), none, none, none, none]) ?_ (Eq.refl 8) (wk_s rfl (wk_s rfl (wk_s rfl (wk_s rfl (wk_n (wk_n (wk_n (wk_n wk_0))))))))
          exact ih17 hl17 (u2 ((sp_X5_throwRose b17 2 ((Int64.toInt32 (b17.2.2 t0 i)) / 100) (irm ((Int64.toInt32 (b17.2.2 t0 i)) / 10) 10) (irm (Int64.toInt32 (b17.2.2 t0 i)) 10)).2) 2 3 ((((sp_X5_throwRose b17 2 ((Int64.toInt32 (b17.2.2 t0 i)) / 100) (irm ((Int64.toInt32 (b17.2.2 t0 i)) / 10) 10) (irm (Int64.toInt32 (b17.2.2 t0 i)) 10)).2).2.1 2 3) + 1)) eN17
      · refine r_aload_n (pc := 72) hG dX0_follow_72 rfl ?_
        refine r_dup (pc := 73) hG dX0_follow_73 rfl ?_
        refine gf_X0_logOff (pc := 74)  hG dX0_follow_74 tw_235 ?_
        refine r_iconst (pc := 77) hG dX0_follow_77 ic_1 ?_
        refine r_iadd (pc := 78) hG dX0_follow_78 ?_
        refine pf_X0_logOff (pc := 79)  hG dX0_follow_79 tw_235 ?_
        refine r_goto (pc := 82) (tgt := 125) hG dX0_follow_82 (by decide) ?_
        refine r_iinc (pc := 125) (v := nI (i + 1)) (ls' := [_, _, _, _, _, _, _, _]) hG dX0_follow_125 rfl (nI_1 _) rfl rfl ?_
        refine r_goto (pc := 128) (tgt := 17) hG dX0_follow_128 (by decide) ?_
        have eN17 : u2 b17 2 4 ((b17.2.1 2 4) + 1) = st_X0_follow_17 M t0 a1 i (itN i (st_X0_follow_17 M t0 a1) (u2 (u2 (u2 M 2 2 0) 2 3 0) 2 4 0)) := by rw [← hg17]; unfold st_X0_follow_17; exact Eq.symm (if_pos c2)
        refine J.wk (ls' := [some (rf K 3), some (rf K (iR t0)), some (.int a1), some (.int (nI (i + 1))), none, none, none, none]) ?_ (Eq.refl 8) (wk_s rfl (wk_s rfl (wk_s rfl (wk_s rfl (wk_n (wk_n (wk_n (wk_n wk_0))))))))
        exact ih17 hl17 (u2 b17 2 4 ((b17.2.1 2 4) + 1)) eN17
  exact (lp17 0 (Nat.zero_le _) _ rfl).wk (Eq.refl 8) (wk_s rfl (wk_s rfl (wk_s rfl (wk_s rfl (wk_n (wk_n (wk_n (wk_n wk_0))))))))

theorem follow_ok {M : MT} {t0 : Nat} {a1 : Int32} (hok2 : OKs M 2) (hrw : ∀ i, i < tn a1 → bd ((Int64.toInt32 (M.2.2 t0 i)) / 100) 8 ∧ tn ((Int64.toInt32 (M.2.2 t0 i)) / 100) < tn (M.1 2 0 0)) : OKs (sp_X0_follow M t0 a1) 2 := by
  have := itN_inv (f := st_X0_follow_17 M t0 a1) (folF M) (tn a1) (fol_u2 (b := 2) (c := 4) (v := 0) (fol_u2 (b := 2) (c := 3) (v := 0) (fol_u2 (b := 2) (c := 2) (v := 0) ⟨hok2, rfl, rfl⟩))) (fun k m hk hm => by have hr : bd ((Int64.toInt32 (m.2.2 t0 k)) / 100) 8 ∧ tn ((Int64.toInt32 (m.2.2 t0 k)) / 100) < tn (M.1 2 0 0) := (by rw [hm.2.1]; exact hrw k (by omega)); unfold st_X0_follow_17; exact fol_ite (F := folF M) (fol_u2 hm) (fol_u2 (fol_th hm hr)) (fol_u2 (fol_th hm hr)))
  unfold sp_X0_follow
  exact this.1

def sp_X8_behind (M : MT) (a0 : Int32) (a1 : Int32) (a2 : Int32) : Int32 × MT :=
  if (sp_X8_within a1 0 40) = true then
    if (sp_X8_isWhat a2 3) = true then
      if (sp_X8_rowRefusal M a0 a1) = 0 then
        if (sp_X5_firstWrong M 0 (tn a0) a1 1) = (-1) then
          if a2 = 0 then
            (sp_X5_roseBearers (sp_X0_follow (cpM M 2 0) (tn a0) a1) 2 0, sp_X0_follow (cpM M 2 0) (tn a0) a1)
          else
            if a2 = 1 then
              ((sp_X0_follow (cpM M 2 0) (tn a0) a1).2.1 2 2, sp_X0_follow (cpM M 2 0) (tn a0) a1)
            else
              if a2 = 2 then
                ((sp_X0_follow (cpM M 2 0) (tn a0) a1).2.1 2 3, sp_X0_follow (cpM M 2 0) (tn a0) a1)
              else
                ((sp_X0_follow (cpM M 2 0) (tn a0) a1).2.1 2 4, sp_X0_follow (cpM M 2 0) (tn a0) a1)
        else
          ((sp_X8_refuse M (-5)).1, (sp_X8_refuse M (-5)).2)
      else
        ((sp_X8_refuse M (sp_X8_rowRefusal M a0 a1)).1, (sp_X8_refuse M (sp_X8_rowRefusal M a0 a1)).2)
    else
      ((sp_X8_refuse M (-2)).1, (sp_X8_refuse M (-2)).2)
  else
    ((sp_X8_refuse M (-2)).1, (sp_X8_refuse M (-2)).2)
set_option maxRecDepth 20000 in
theorem c_X8_behind {K : KT} {M : MT} {a0 : Int32} {a1 : Int32} {a2 : Int32}  (hokx : OKX M) : CM K 7 yX8_behind cX8_behind 5 (some FieldType.int) [rf K 0, .int a0, .int a1, .int a2] M (some (.int (sp_X8_behind M a0 a1 a2).1)) (sp_X8_behind M a0 a1 a2).2 := by
  refine CM.ofI (by decide) [some (rf K 0), some (.int a0), some (.int a1), some (.int a2), none] rfl (Nat.le_of_ble_eq_true rfl) (Nat.le_of_ble_eq_true rfl) (fun G hG _ hret => ?_)
  obtain ⟨hok0, hok1, hoa2, hoa3, hoa4, hsh, htp⟩ := id hokx
  obtain ⟨hwc0, hpc0, ⟨hcl0, hcm0⟩, hwi0, hda0, hle0, hk80, ha80, hW0, hP0⟩ := id hok0
  have hwl0 := bd_lt hwc0
  have hpl0 := bd_lt hpc0
  have hcl0l := bd_lt hcl0
  refine r_iload_n (pc := 0) hG dX8_behind_0 rfl ?_
  refine r_iconst (pc := 1) hG dX8_behind_1 ic_0 ?_
  refine r_bipush (pc := 2) hG dX8_behind_2 bc_40 ?_
  refine cs_X8_within (pc := 4)  hG dX8_behind_4 tw_387 (c_X8_within) (by decide) (Nat.le_of_ble_eq_true rfl) ?_
  refine r_ifz_eq (pc := 7) (tgt := 18) hG dX8_behind_7 (by decide) (fun c1 => ?_) (fun c1 => ?_)
  · refine r_aload_n (pc := 18) hG dX8_behind_18 rfl ?_
    refine r_bipush (pc := 19) hG dX8_behind_19 bc_m2 ?_
    refine cv_X8_refuse (pc := 21)  hG dX8_behind_21 tw_390 (c_X8_refuse (bd_lit (n := 7) (by decide))) (by decide) (Nat.le_of_ble_eq_true rfl) ?_
    exact hret _ _ _ _ dX8_behind_24 (pair_fst (show sp_X8_behind M a0 a1 a2 = ((sp_X8_refuse M (-2)).1, (sp_X8_refuse M (-2)).2) from (by unfold sp_X8_behind; exact (if_neg c1)))) (pair_snd (show sp_X8_behind M a0 a1 a2 = ((sp_X8_refuse M (-2)).1, (sp_X8_refuse M (-2)).2) from (by unfold sp_X8_behind; exact (if_neg c1))))
  · refine r_iload_n (pc := 10) hG dX8_behind_10 rfl ?_
    refine r_iconst (pc := 11) hG dX8_behind_11 ic_3 ?_
    refine cs_X8_isWhat (pc := 12)  hG dX8_behind_12 tw_514 (c_X8_isWhat) (by decide) (Nat.le_of_ble_eq_true rfl) ?_
    refine r_ifz_ne (pc := 15) (tgt := 25) hG dX8_behind_15 (by decide) (fun c2 => ?_) (fun c2 => ?_)
    · refine r_aload_n (pc := 25) hG dX8_behind_25 rfl ?_
      refine r_iload_n (pc := 26) hG dX8_behind_26 rfl ?_
      refine r_iload_n (pc := 27) hG dX8_behind_27 rfl ?_
      refine cv_X8_rowRefusal (pc := 28)  hG dX8_behind_28 tw_402 (c_X8_rowRefusal) (by decide) (Nat.le_of_ble_eq_true rfl) ?_
      refine r_istore (pc := 31) (ls' := [_, _, _, _, _]) hG dX8_behind_31 rfl rfl ?_
      refine r_iload (pc := 33) hG dX8_behind_33 rfl ?_
      refine r_if_eq (pc := 35) (tgt := 45) hG dX8_behind_35 (by decide) (fun c3 => ?_) (fun c3 => ?_)
      · refine r_aload_n (pc := 45) hG dX8_behind_45 rfl ?_
        refine gf_X8_live (pc := 46)  hG dX8_behind_46 tw_355 ?_
        refine r_aload_n (pc := 49) hG dX8_behind_49 rfl ?_
        refine gf_X8_shelves (pc := 50)  hG dX8_behind_50 tw_360 ?_
        refine r_iload_n (pc := 53) hG dX8_behind_53 rfl ?_
        refine aa_Xsh (pc := 54)  hG dX8_behind_54 (ix_bd (rrS c3)) ?_
        refine gf_X4_row (pc := 55) (bd_lt (rrS c3)) hG dX8_behind_55 tw_343 ?_
        refine r_iload_n (pc := 58) hG dX8_behind_58 rfl ?_
        refine r_iconst (pc := 59) hG dX8_behind_59 ic_1 ?_
        refine cv_X5_firstWrong (pc := 60) (by omega) hG dX8_behind_60 tw_866 (c_X5_firstWrong (by omega) (bd_lt (rrS c3)) (wi_bd (n := 40) c1 rfl (Nat.le_of_ble_eq_true rfl)) (mul1_bd (wi_bd (n := 40) c1 rfl (Nat.le_of_ble_eq_true rfl)))) (by decide) (Nat.le_of_ble_eq_true rfl) ?_
        refine r_iconst (pc := 63) hG dX8_behind_63 ic_m1 ?_
        refine r_icmp_eq (pc := 64) (tgt := 74) hG dX8_behind_64 (by decide) (fun c4 => ?_) (fun c4 => ?_)
        · refine r_aload_n (pc := 74) hG dX8_behind_74 rfl ?_
          refine cv_X8_freshOutlook (pc := 75)  hG dX8_behind_75 tw_777 (c_X8_freshOutlook hokx) (by decide) (Nat.le_of_ble_eq_true rfl) ?_
          refine r_aload_n (pc := 78) hG dX8_behind_78 rfl ?_
          refine gf_X8_shelves (pc := 79)  hG dX8_behind_79 tw_360 ?_
          refine r_iload_n (pc := 82) hG dX8_behind_82 rfl ?_
          refine aa_Xsh (pc := 83)  hG dX8_behind_83 (ix_bd (rrS c3)) ?_
          refine gf_X4_row (pc := 84) (bd_lt (rrS c3)) hG dX8_behind_84 tw_343 ?_
          refine r_iload_n (pc := 87) hG dX8_behind_87 rfl ?_
          refine cv_X0_follow (pc := 88)  hG dX8_behind_88 tw_1101 (c_X0_follow (bd_lt (rrS c3)) (wi_bd (n := 40) c1 rfl (Nat.le_of_ble_eq_true rfl)) (OKs_copy2 (by decide) hok0 hoa2) (fw_fol (M := M) hwc0 (wi_bd (n := 40) c1 rfl (Nat.le_of_ble_eq_true rfl)) c4)) (by decide) (Nat.le_of_ble_eq_true rfl) ?_
          refine r_iload_n (pc := 91) hG dX8_behind_91 rfl ?_
          by_cases c5 : a2 = 0
          · refine r_tableIn (pc := 92) (tgt := 120) (off := 28) hG dX8_behind_92 (by rw [c5]; decide) (by rw [c5]; decide) (by rw [c5]; rfl) (by decide) ?_
            refine r_aload_n (pc := 120) hG dX8_behind_120 rfl ?_
            refine gf_X8_outlook (pc := 121)  hG dX8_behind_121 tw_357 ?_
            refine gf_X0_draft (pc := 124)  hG dX8_behind_124 tw_225 ?_
            refine r_iconst (pc := 127) hG dX8_behind_127 ic_0 ?_
            refine cv_X5_roseBearers (pc := 128) (by omega) hG dX8_behind_128 tw_976 (c_X5_roseBearers (by omega) (follow_ok (OKs_copy2 (by decide) hok0 hoa2) (fw_fol (M := M) hwc0 (wi_bd (n := 40) c1 rfl (Nat.le_of_ble_eq_true rfl)) c4))) (by decide) (Nat.le_of_ble_eq_true rfl) ?_
            exact hret _ _ _ _ dX8_behind_131 (pair_fst (show sp_X8_behind M a0 a1 a2 = (sp_X5_roseBearers (sp_X0_follow (cpM M 2 0) (tn a0) a1) 2 0, sp_X0_follow (cpM M 2 0) (tn a0) a1) from (by unfold sp_X8_behind; exact ((if_pos c1).trans ((if_pos c2).trans ((if_pos c3).trans ((if_pos c4).trans (if_pos c5)))))))) (pair_snd (show sp_X8_behind M a0 a1 a2 = (sp_X5_roseBearers (sp_X0_follow (cpM M 2 0) (tn a0) a1) 2 0, sp_X0_follow (cpM M 2 0) (tn a0) a1) from (by unfold sp_X8_behind; exact ((if_pos c1).trans ((if_pos c2).trans ((if_pos c3).trans ((if_pos c4).trans (if_pos c5))))))))
          · by_cases c6 : a2 = 1
            · refine r_tableIn (pc := 92) (tgt := 132) (off := 40) hG dX8_behind_92 (by rw [c6]; decide) (by rw [c6]; decide) (by rw [c6]; rfl) (by decide) ?_
              refine r_aload_n (pc := 132) hG dX8_behind_132 rfl ?_
              refine gf_X8_outlook (pc := 133)  hG dX8_behind_133 tw_357 ?_
              refine gf_X0_logCaught (pc := 136)  hG dX8_behind_136 tw_232 ?_
              exact hret _ _ _ _ dX8_behind_139 (pair_fst (show sp_X8_behind M a0 a1 a2 = ((sp_X0_follow (cpM M 2 0) (tn a0) a1).2.1 2 2, sp_X0_follow (cpM M 2 0) (tn a0) a1) from (by unfold sp_X8_behind; exact ((if_pos c1).trans ((if_pos c2).trans ((if_pos c3).trans ((if_pos c4).trans ((if_neg c5).trans (if_pos c6))))))))) (pair_snd (show sp_X8_behind M a0 a1 a2 = ((sp_X0_follow (cpM M 2 0) (tn a0) a1).2.1 2 2, sp_X0_follow (cpM M 2 0) (tn a0) a1) from (by unfold sp_X8_behind; exact ((if_pos c1).trans ((if_pos c2).trans ((if_pos c3).trans ((if_pos c4).trans ((if_neg c5).trans (if_pos c6)))))))))
            · by_cases c7 : a2 = 2
              · refine r_tableIn (pc := 92) (tgt := 140) (off := 48) hG dX8_behind_92 (by rw [c7]; decide) (by rw [c7]; decide) (by rw [c7]; rfl) (by decide) ?_
                refine r_aload_n (pc := 140) hG dX8_behind_140 rfl ?_
                refine gf_X8_outlook (pc := 141)  hG dX8_behind_141 tw_357 ?_
                refine gf_X0_logLying (pc := 144)  hG dX8_behind_144 tw_234 ?_
                exact hret _ _ _ _ dX8_behind_147 (pair_fst (show sp_X8_behind M a0 a1 a2 = ((sp_X0_follow (cpM M 2 0) (tn a0) a1).2.1 2 3, sp_X0_follow (cpM M 2 0) (tn a0) a1) from (by unfold sp_X8_behind; exact ((if_pos c1).trans ((if_pos c2).trans ((if_pos c3).trans ((if_pos c4).trans ((if_neg c5).trans ((if_neg c6).trans (if_pos c7)))))))))) (pair_snd (show sp_X8_behind M a0 a1 a2 = ((sp_X0_follow (cpM M 2 0) (tn a0) a1).2.1 2 3, sp_X0_follow (cpM M 2 0) (tn a0) a1) from (by unfold sp_X8_behind; exact ((if_pos c1).trans ((if_pos c2).trans ((if_pos c3).trans ((if_pos c4).trans ((if_neg c5).trans ((if_neg c6).trans (if_pos c7))))))))))
              · have nc5 : Int32.toInt a2 ≠ 0 := fun q => c5 (Int32.toInt_inj.mp q)
                have nc6 : Int32.toInt a2 ≠ 1 := fun q => c6 (Int32.toInt_inj.mp q)
                have nc7 : Int32.toInt a2 ≠ 2 := fun q => c7 (Int32.toInt_inj.mp q)
                refine r_tableOut (pc := 92) (tgt := 148) hG dX8_behind_92 (by omega) (by decide) ?_
                refine r_aload_n (pc := 148) hG dX8_behind_148 rfl ?_
                refine gf_X8_outlook (pc := 149)  hG dX8_behind_149 tw_357 ?_
                refine gf_X0_logOff (pc := 152)  hG dX8_behind_152 tw_236 ?_
                exact hret _ _ _ _ dX8_behind_155 (pair_fst (show sp_X8_behind M a0 a1 a2 = ((sp_X0_follow (cpM M 2 0) (tn a0) a1).2.1 2 4, sp_X0_follow (cpM M 2 0) (tn a0) a1) from (by unfold sp_X8_behind; exact ((if_pos c1).trans ((if_pos c2).trans ((if_pos c3).trans ((if_pos c4).trans ((if_neg c5).trans ((if_neg c6).trans (if_neg c7)))))))))) (pair_snd (show sp_X8_behind M a0 a1 a2 = ((sp_X0_follow (cpM M 2 0) (tn a0) a1).2.1 2 4, sp_X0_follow (cpM M 2 0) (tn a0) a1) from (by unfold sp_X8_behind; exact ((if_pos c1).trans ((if_pos c2).trans ((if_pos c3).trans ((if_pos c4).trans ((if_neg c5).trans ((if_neg c6).trans (if_neg c7))))))))))
        · refine r_aload_n (pc := 67) hG dX8_behind_67 rfl ?_
          refine r_bipush (pc := 68) hG dX8_behind_68 bc_m5 ?_
          refine cv_X8_refuse (pc := 70)  hG dX8_behind_70 tw_390 (c_X8_refuse (bd_lit (n := 7) (by decide))) (by decide) (Nat.le_of_ble_eq_true rfl) ?_
          exact hret _ _ _ _ dX8_behind_73 (pair_fst (show sp_X8_behind M a0 a1 a2 = ((sp_X8_refuse M (-5)).1, (sp_X8_refuse M (-5)).2) from (by unfold sp_X8_behind; exact ((if_pos c1).trans ((if_pos c2).trans ((if_pos c3).trans (if_neg c4))))))) (pair_snd (show sp_X8_behind M a0 a1 a2 = ((sp_X8_refuse M (-5)).1, (sp_X8_refuse M (-5)).2) from (by unfold sp_X8_behind; exact ((if_pos c1).trans ((if_pos c2).trans ((if_pos c3).trans (if_neg c4)))))))
      · refine r_aload_n (pc := 38) hG dX8_behind_38 rfl ?_
        refine r_iload (pc := 39) hG dX8_behind_39 rfl ?_
        refine cv_X8_refuse (pc := 41)  hG dX8_behind_41 tw_390 (c_X8_refuse rrB) (by decide) (Nat.le_of_ble_eq_true rfl) ?_
        exact hret _ _ _ _ dX8_behind_44 (pair_fst (show sp_X8_behind M a0 a1 a2 = ((sp_X8_refuse M (sp_X8_rowRefusal M a0 a1)).1, (sp_X8_refuse M (sp_X8_rowRefusal M a0 a1)).2) from (by unfold sp_X8_behind; exact ((if_pos c1).trans ((if_pos c2).trans (if_neg c3)))))) (pair_snd (show sp_X8_behind M a0 a1 a2 = ((sp_X8_refuse M (sp_X8_rowRefusal M a0 a1)).1, (sp_X8_refuse M (sp_X8_rowRefusal M a0 a1)).2) from (by unfold sp_X8_behind; exact ((if_pos c1).trans ((if_pos c2).trans (if_neg c3))))))
    · refine r_aload_n (pc := 18) hG dX8_behind_18 rfl ?_
      refine r_bipush (pc := 19) hG dX8_behind_19 bc_m2 ?_
      refine cv_X8_refuse (pc := 21)  hG dX8_behind_21 tw_390 (c_X8_refuse (bd_lit (n := 7) (by decide))) (by decide) (Nat.le_of_ble_eq_true rfl) ?_
      exact hret _ _ _ _ dX8_behind_24 (pair_fst (show sp_X8_behind M a0 a1 a2 = ((sp_X8_refuse M (-2)).1, (sp_X8_refuse M (-2)).2) from (by unfold sp_X8_behind; exact ((if_pos c1).trans (if_neg c2))))) (pair_snd (show sp_X8_behind M a0 a1 a2 = ((sp_X8_refuse M (-2)).1, (sp_X8_refuse M (-2)).2) from (by unfold sp_X8_behind; exact ((if_pos c1).trans (if_neg c2)))))
