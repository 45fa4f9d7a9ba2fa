theorem itN_s {A : Type} (n : Nat) (f : Nat → A → A) (b : A) : itN (n + 1) f b = f n (itN n f b) := rfl
theorem pd_0 {M : MT} {s : Nat} : (sp_X5_passDay M s).1 s 0 0 = M.1 s 0 0 := by
  unfold sp_X5_passDay
  exact itN_inv (fun m : MT => m.1 s 0 0 = M.1 s 0 0) _ (u1_f (by decide)) (fun k m hk hm => by unfold st_X5_passDay_18; (repeat' split) <;> simp [sp_X2_drop, u1, hm])
theorem th_0 {M : MT} {s : Nat} {a b c : Int32} : (sp_X5_throwRose M s a b c).2.1 s 0 0 = M.1 s 0 0 := by
  unfold sp_X5_throwRose
  split
  · rfl
  · show (u1 (u1 M s 12 _ _) s 13 _ _).1 s 0 0 = _
    rw [u1_f (by decide), u1_f (by decide)]
theorem th_J {M : MT} {s : Nat} {a b c : Int32} : (sp_X5_throwRose M s a b c).2.2 = M.2 := by
  unfold sp_X5_throwRose; split <;> rfl
theorem sd_0 {M : MT} {s : Nat} : (sdN M s).1 s 0 0 = M.1 s 0 0 := u1_f (by decide)
theorem wd_0 {M : MT} {s : Nat} {v : Int32} : (u1 M s 3 0 v).1 s 0 0 = M.1 s 0 0 := u1_f (by decide)
theorem carn_fin {X : MT} {w0 w f y : Int32} (g1 : OKs X 0) (g2 : X.1 0 0 0 = w0) (h8 : bd w 8) (hlt : tn w < tn w0) : OKs (sp_X5_passDay (sp_X5_throwRose X 0 w f y).2 0) 0 ∧ (sp_X5_passDay (sp_X5_throwRose X 0 w f y).2 0).1 0 0 0 = w0 :=
  ⟨OKs_passDay (OKs_throw2 g1 h8 (by rw [g2]; exact hlt)), pd_0.trans (th_0.trans g2)⟩
theorem carn_s3 {X : MT} {w0 : Int32} (g1 : OKs X 0) (g2 : X.1 0 0 0 = w0) : OKs (sdN (sdN (sdN X 0) 0) 0) 0 ∧ (sdN (sdN (sdN X 0) 0) 0).1 0 0 0 = w0 :=
  ⟨OKs_sd (OKs_sd (OKs_sd g1)), sd_0.trans (sd_0.trans (sd_0.trans g2))⟩
theorem carn_s1 {M : MT} {d : Int32} (h : OKs M 0) (hd : bd d 11) : OKs (u1 (sdN M 0) 0 3 0 d) 0 ∧ (u1 (sdN M 0) 0 3 0 d).1 0 0 0 = M.1 0 0 0 :=
  ⟨OKs_wind (OKs_sd h) hd, wd_0.trans sd_0⟩
theorem draw11 {M : MT} : bd (sp_X5_draw M 0 11).1 11 := (draw_bd (n := 11) (show bd 11 12 from bd_lit (by decide)) (show ¬ (11 : Int32) = 0 by decide)).1
theorem carn_g1 {M : MT} (h : OKs M 0) : OKs (u1 (sdN M 0) 0 3 0 (sp_X5_draw M 0 11).1) 0 ∧ (u1 (sdN M 0) 0 3 0 (sp_X5_draw M 0 11).1).1 0 0 0 = M.1 0 0 0 :=
  carn_s1 (d := (sp_X5_draw M 0 11).1) h draw11
theorem carn_g3 {M X : MT} (h : OKs M 0) (h0 : ¬ M.1 0 0 0 = 0) : bd (sp_X5_draw X 0 (M.1 0 0 0)).1 8 ∧ tn (sp_X5_draw X 0 (M.1 0 0 0)).1 < tn (M.1 0 0 0) :=
  draw_bd (n := 8) (M := X) (s := 0) h.1 h0
theorem snd_mk {A B : Type} {a : A} {b : B} : (a, b).2 = b := rfl
theorem carn_eq {M : MT} : (sp_X5_carnival M).2 = sp_X5_passDay ((sp_X5_throwRose (sdN (sdN (sdN (u1 (sdN M 0) 0 3 0 ((sp_X5_draw M 0 11).1)) 0) 0) 0) 0 ((sp_X5_draw (u1 (sdN M 0) 0 3 0 ((sp_X5_draw M 0 11).1)) 0 (M.1 0 0 0)).1) ((sp_X5_draw (sdN (u1 (sdN M 0) 0 3 0 ((sp_X5_draw M 0 11).1)) 0) 0 10).1) ((sp_X5_draw (sdN (sdN (u1 (sdN M 0) 0 3 0 ((sp_X5_draw M 0 11).1)) 0) 0) 0 3).1)).2) 0 :=
  (congrArg Prod.snd (sp_X5_carnival.eq_1 M)).trans snd_mk
theorem carn_y {M : MT} {w0 d w f y : Int32} {X : MT} (e : X = sp_X5_passDay ((sp_X5_throwRose (sdN (sdN (sdN (u1 (sdN M 0) 0 3 0 d) 0) 0) 0) 0 w f y).2) 0) (g : OKs (u1 (sdN M 0) 0 3 0 d) 0 ∧ (u1 (sdN M 0) 0 3 0 d).1 0 0 0 = w0) (g3 : bd w 8 ∧ tn w < tn w0) : OKs X 0 ∧ X.1 0 0 0 = w0 := by
  rw [e]
  have g4 := carn_s3 g.1 g.2
  exact carn_fin g4.1 g4.2 g3.1 g3.2
theorem OKs_carn {M : MT} (h : OKs M 0) (h0 : ¬ M.1 0 0 0 = 0) : OKs (sp_X5_carnival M).2 0 ∧ (sp_X5_carnival M).2.1 0 0 0 = M.1 0 0 0 :=
  carn_y carn_eq (carn_g1 h) (carn_g3 h h0)
theorem carn_st {A : Type} {m x : A × MT} (e : x.2 = (sp_X5_carnival m.2).2) (h : OKs m.2 0 ∧ ¬ m.2.1 0 0 0 = 0) : OKs x.2 0 ∧ ¬ x.2.1 0 0 0 = 0 := by
  have g := OKs_carn h.1 h.2
  rw [e]
  exact ⟨g.1, by rw [g.2]; exact h.2⟩
theorem ite_snd {A B : Type} {c : Prop} [Decidable c] {a b : A} {x : B} : (if c then (a, x) else (b, x)).2 = x := by split <;> rfl
theorem wi_bd1 {a : Int32} {n : Nat} {x : Int32} (c : sp_X8_within a 1 x = true) (hx : x = nI n) (hn : n < 2147483648) : bd a (n + 1) := by
  have := within_iff.mp c
  exact bd_in (m := n) (Int32.le_trans (by decide) this.1) (by rw [← hx]; exact this.2) hn (by omega)

def st_X8_days_19 (M : MT) (a0 : Int32) (i : Nat) (b19 : MT) : MT :=
  sp_X5_passDay b19 0
def sp_X8_days (M : MT) (a0 : Int32) : Int32 × MT :=
  if (sp_X8_within a0 1 60) = true then
    ((itN (tn a0) (st_X8_days_19 M a0) M).1 0 4 0, itN (tn a0) (st_X8_days_19 M a0) M)
  else
    ((sp_X8_refuse M (-2)).1, (sp_X8_refuse M (-2)).2)
set_option maxRecDepth 20000 in
theorem c_X8_days {K : KT} {M : MT} {a0 : Int32}  (hokx : OKX M) : CM K 3 yX8_days cX8_days 3 (some FieldType.int) [rf K 0, .int a0] M (some (.int (sp_X8_days M a0).1)) (sp_X8_days M a0).2 := by
  refine CM.ofI (by decide) [some (rf K 0), some (.int a0), none] rfl (Nat.le_of_ble_eq_true rfl) (Nat.le_of_ble_eq_true rfl) (fun G hG _ hret => ?_)
  obtain ⟨hok0, hok1, hoa2, hoa3, hoa4, hsh, htp⟩ := id hokx
  obtain ⟨hwc0, hpc0, ⟨hcl0, hcm0⟩, hwi0, hda0, hle0, hk80, ha80, hW0, hP0⟩ := id hok0
  have hwl0 := bd_lt hwc0
  have hpl0 := bd_lt hpc0
  have hcl0l := bd_lt hcl0
  refine r_iload_n (pc := 0) hG dX8_days_0 rfl ?_
  refine r_iconst (pc := 1) hG dX8_days_1 ic_1 ?_
  refine r_bipush (pc := 2) hG dX8_days_2 bc_60 ?_
  refine cs_X8_within (pc := 4)  hG dX8_days_4 tw_387 (c_X8_within) (by decide) (Nat.le_of_ble_eq_true rfl) ?_
  refine r_ifz_ne (pc := 7) (tgt := 17) hG dX8_days_7 (by decide) (fun c1 => ?_) (fun c1 => ?_)
  · refine r_iconst (pc := 17) hG dX8_days_17 ic_0 ?_
    refine r_istore_n (pc := 18) (ls' := [_, _, _]) hG dX8_days_18 rfl rfl ?_
    have hb19 : bd a0 61 := (wi_bd1 (n := 60) c1 rfl (Nat.le_of_ble_eq_true rfl))
    have hb19l := bd_lt hb19
    have lp19 : ∀ i, i ≤ (tn a0) → ∀ b19 : MT, b19 = itN i (st_X8_days_19 M a0) M → J G K b19 19 [some (rf K 0), some (.int a0), some (.int (nI i))] [] := by
      refine up_ind (tn a0) (fun i hi19 ih19 => ?_)
      intro b19 hg19
      have hok19 : OKs b19 0 := by subst hg19; exact itN_inv (fun m : MT => OKs m 0) i hok0 (fun k m hk hm => by unfold st_X8_days_19; exact OKs_passDay hm)
      refine r_iload_n (pc := 19) hG dX8_days_19 rfl ?_
      refine r_iload_n (pc := 20) hG dX8_days_20 rfl ?_
      refine r_icmp_ge (pc := 21) (tgt := 37) hG dX8_days_21 (by decide) (fun c2 => ?_) (fun c2 => ?_)
      · have e19 : i = (tn a0) := by have := (bd_le hb19 (by omega)).mp c2; omega
        subst hg19
        subst e19
        refine r_aload_n (pc := 37) hG dX8_days_37 rfl ?_
        refine gf_X8_live (pc := 38)  hG dX8_days_38 tw_355 ?_
        refine gf_X5_said (pc := 41) (by omega) hG dX8_days_41 tw_192 ?_
        exact hret _ _ _ _ dX8_days_44 (pair_fst (show sp_X8_days M a0 = ((itN (tn a0) (st_X8_days_19 M a0) M).1 0 4 0, itN (tn a0) (st_X8_days_19 M a0) M) from (by unfold sp_X8_days; exact (if_pos c1)))) (pair_snd (show sp_X8_days M a0 = ((itN (tn a0) (st_X8_days_19 M a0) M).1 0 4 0, itN (tn a0) (st_X8_days_19 M a0) M) from (by unfold sp_X8_days; exact (if_pos c1))))
      · have hl19 : i < (tn a0) := by have := mt (bd_le hb19 (by omega)).mpr c2; omega
        refine r_aload_n (pc := 24) hG dX8_days_24 rfl ?_
        refine gf_X8_live (pc := 25)  hG dX8_days_25 tw_355 ?_
        refine cv_X5_passDay (pc := 28) (by omega) hG dX8_days_28 tw_1118 (c_X5_passDay (by omega) hok19) (by decide) (Nat.le_of_ble_eq_true rfl) ?_
        refine r_iinc (pc := 31) (v := nI (i + 1)) (ls' := [_, _, _]) hG dX8_days_31 rfl (nI_1 _) rfl rfl ?_
        refine r_goto (pc := 34) (tgt := 19) hG dX8_days_34 (by decide) ?_
        have eN19 : sp_X5_passDay b19 0 = st_X8_days_19 M a0 i (itN i (st_X8_days_19 M a0) M) := by rw [← hg19]; unfold st_X8_days_19; exact Eq.symm rfl
        refine J.wk (ls' := [some (rf K 0), some (.int a0), some (.int (nI (i + 1)))]) ?_ (Eq.refl 3) (wk_s rfl (wk_s rfl (wk_s rfl wk_0)))
        exact ih19 hl19 (sp_X5_passDay b19 0) eN19
    exact (lp19 0 (Nat.zero_le _) _ rfl).wk (Eq.refl 3) (wk_s rfl (wk_s rfl (wk_s rfl wk_0)))
  · refine r_aload_n (pc := 10) hG dX8_days_10 rfl ?_
    refine r_bipush (pc := 11) hG dX8_days_11 bc_m2 ?_
    refine cv_X8_refuse (pc := 13)  hG dX8_days_13 tw_390 (c_X8_refuse (bd_lit (n := 7) (by decide))) (by decide) (Nat.le_of_ble_eq_true rfl) ?_
    exact hret _ _ _ _ dX8_days_16 (pair_fst (show sp_X8_days M a0 = ((sp_X8_refuse M (-2)).1, (sp_X8_refuse M (-2)).2) from (by unfold sp_X8_days; exact (if_neg c1)))) (pair_snd (show sp_X8_days M a0 = ((sp_X8_refuse M (-2)).1, (sp_X8_refuse M (-2)).2) from (by unfold sp_X8_days; exact (if_neg c1))))

def st_X8_drawn_38 (M : MT) (a0 : Int32) (i : Nat) (b38 : Int32 × MT) : Int32 × MT :=
  if ((sp_X5_carnival b38.2).1) = (-1) then
    (b38.1, (sp_X5_carnival b38.2).2)
  else
    (b38.1 + 1, (sp_X5_carnival b38.2).2)
def sp_X8_drawn (M : MT) (a0 : Int32) : Int32 × MT :=
  if (sp_X8_within a0 1 40) = true then
    if (M.1 0 0 0) = 0 then
      ((sp_X8_refuse M (-5)).1, (sp_X8_refuse M (-5)).2)
    else
      ((itN (tn a0) (st_X8_drawn_38 M a0) (0, M)).1, (itN (tn a0) (st_X8_drawn_38 M a0) (0, M)).2)
  else
    ((sp_X8_refuse M (-2)).1, (sp_X8_refuse M (-2)).2)
set_option maxRecDepth 20000 in
theorem c_X8_drawn {K : KT} {M : MT} {a0 : Int32}  (hokx : OKX M) : CM K 7 yX8_drawn cX8_drawn 4 (some FieldType.int) [rf K 0, .int a0] M (some (.int (sp_X8_drawn M a0).1)) (sp_X8_drawn M a0).2 := by
  refine CM.ofI (by decide) [some (rf K 0), some (.int a0), none, none] rfl (Nat.le_of_ble_eq_true rfl) (Nat.le_of_ble_eq_true rfl) (fun G hG _ hret => ?_)
  obtain ⟨hok0, hok1, hoa2, hoa3, hoa4, hsh, htp⟩ := id hokx
  obtain ⟨hwc0, hpc0, ⟨hcl0, hcm0⟩, hwi0, hda0, hle0, hk80, ha80, hW0, hP0⟩ := id hok0
  have hwl0 := bd_lt hwc0
  have hpl0 := bd_lt hpc0
  have hcl0l := bd_lt hcl0
  refine r_iload_n (pc := 0) hG dX8_drawn_0 rfl ?_
  refine r_iconst (pc := 1) hG dX8_drawn_1 ic_1 ?_
  refine r_bipush (pc := 2) hG dX8_drawn_2 bc_40 ?_
  refine cs_X8_within (pc := 4)  hG dX8_drawn_4 tw_387 (c_X8_within) (by decide) (Nat.le_of_ble_eq_true rfl) ?_
  refine r_ifz_ne (pc := 7) (tgt := 17) hG dX8_drawn_7 (by decide) (fun c1 => ?_) (fun c1 => ?_)
  · refine r_aload_n (pc := 17) hG dX8_drawn_17 rfl ?_
    refine gf_X8_live (pc := 18)  hG dX8_drawn_18 tw_355 ?_
    refine gf_X5_windowCount (pc := 21) (by omega) hG dX8_drawn_21 tw_172 ?_
    refine r_if_ne (pc := 24) (tgt := 34) hG dX8_drawn_24 (by decide) (fun c2 => ?_) (fun c2 => ?_)
    · refine r_iconst (pc := 34) hG dX8_drawn_34 ic_0 ?_
      refine r_istore_n (pc := 35) (ls' := [_, _, _, _]) hG dX8_drawn_35 rfl rfl ?_
      refine r_iconst (pc := 36) hG dX8_drawn_36 ic_0 ?_
      refine r_istore_n (pc := 37) (ls' := [_, _, _, _]) hG dX8_drawn_37 rfl rfl ?_
      have hb38 : bd a0 41 := (wi_bd1 (n := 40) c1 rfl (Nat.le_of_ble_eq_true rfl))
      have hb38l := bd_lt hb38
      have lp38 : ∀ i, i ≤ (tn a0) → ∀ b38 : Int32 × MT, b38 = itN i (st_X8_drawn_38 M a0) (0, M) → J G K b38.2 38 [some (rf K 0), some (.int a0), some (.int b38.1), some (.int (nI i))] [] := by
        refine up_ind (tn a0) (fun i hi38 ih38 => ?_)
        intro b38 hg38
        have hok38 : OKs b38.2 0 ∧ ¬ b38.2.1 0 0 0 = 0 := by subst hg38; exact itN_inv (fun x : Int32 × MT => OKs x.2 0 ∧ ¬ x.2.1 0 0 0 = 0) i ⟨hok0, c2⟩ (fun k m hk hm => carn_st ((congrArg Prod.snd (st_X8_drawn_38.eq_1 M a0 k m)).trans ite_snd) hm)
        refine r_iload_n (pc := 38) hG dX8_drawn_38 rfl ?_
        refine r_iload_n (pc := 39) hG dX8_drawn_39 rfl ?_
        refine r_icmp_ge (pc := 40) (tgt := 63) hG dX8_drawn_40 (by decide) (fun c3 => ?_) (fun c3 => ?_)
        · have e38 : i = (tn a0) := by have := (bd_le hb38 (by omega)).mp c3; omega
          subst hg38
          subst e38
          refine r_iload_n (pc := 63) hG dX8_drawn_63 rfl ?_
          exact hret _ _ _ _ dX8_drawn_64 (pair_fst (show sp_X8_drawn M a0 = ((itN (tn a0) (st_X8_drawn_38 M a0) (0, M)).1, (itN (tn a0) (st_X8_drawn_38 M a0) (0, M)).2) from (by unfold sp_X8_drawn; exact ((if_pos c1).trans (if_neg c2))))) (pair_snd (show sp_X8_drawn M a0 = ((itN (tn a0) (st_X8_drawn_38 M a0) (0, M)).1, (itN (tn a0) (st_X8_drawn_38 M a0) (0, M)).2) from (by unfold sp_X8_drawn; exact ((if_pos c1).trans (if_neg c2)))))
        · have hl38 : i < (tn a0) := by have := mt (bd_le hb38 (by omega)).mpr c3; omega
          refine r_aload_n (pc := 43) hG dX8_drawn_43 rfl ?_
          refine gf_X8_live (pc := 44)  hG dX8_drawn_44 tw_355 ?_
          refine cv_X5_carnival (pc := 47) (by omega) hG dX8_drawn_47 tw_1129 (c_X5_carnival hok38.1 hok38.2) (by decide) (Nat.le_of_ble_eq_true rfl) ?_
          refine r_iconst (pc := 50) hG dX8_drawn_50 ic_m1 ?_
          refine r_icmp_eq (pc := 51) (tgt := 57) hG dX8_drawn_51 (by decide) (fun c4 => ?_) (fun c4 => ?_)
          · refine r_iinc (pc := 57) (v := nI (i + 1)) (ls' := [_, _, _, _]) hG dX8_drawn_57 rfl (nI_1 _) rfl rfl ?_
            refine r_goto (pc := 60) (tgt := 38) hG dX8_drawn_60 (by decide) ?_
            have eN38 : (b38.1, (sp_X5_carnival b38.2).2) = st_X8_drawn_38 M a0 i (itN i (st_X8_drawn_38 M a0) (0, M)) := by rw [← hg38]; unfold st_X8_drawn_38; exact Eq.symm (if_pos c4)
            refine J.wk (ls' := [some (rf K 0), some (.int a0), some (.int b38.1), some (.int (nI (i + 1)))]) ?_ (Eq.refl 4) (wk_s rfl (wk_s rfl (wk_s rfl (wk_s rfl wk_0))))
            obtain ⟨p38, hp38⟩ : ∃ p, p = (b38.1, (sp_X5_carnival b38.2).2) := ⟨_, rfl⟩
            have q38 := ih38 hl38 p38 (hp38.trans (eN38.trans (itN_s i (st_X8_drawn_38 M a0) (0, M)).symm))
            rw [← pair_snd hp38, ← pair_fst hp38] at q38
            exact q38
          · refine r_iinc (pc := 54) (v := b38.1 + 1) (ls' := [_, _, _, _]) hG dX8_drawn_54 rfl rfl rfl rfl ?_
            refine r_iinc (pc := 57) (v := nI (i + 1)) (ls' := [_, _, _, _]) hG dX8_drawn_57 rfl (nI_1 _) rfl rfl ?_
            refine r_goto (pc := 60) (tgt := 38) hG dX8_drawn_60 (by decide) ?_
            have eN38 : (b38.1 + 1, (sp_X5_carnival b38.2).2) = st_X8_drawn_38 M a0 i (itN i (st_X8_drawn_38 M a0) (0, M)) := by rw [← hg38]; unfold st_X8_drawn_38; exact Eq.symm (if_neg c4)
            refine J.wk (ls' := [some (rf K 0), some (.int a0), some (.int (b38.1 + 1)), some (.int (nI (i + 1)))]) ?_ (Eq.refl 4) (wk_s rfl (wk_s rfl (wk_s rfl (wk_s rfl wk_0))))
            obtain ⟨p38, hp38⟩ : ∃ p, p = (b38.1 + 1, (sp_X5_carnival b38.2).2) := ⟨_, rfl⟩
            have q38 := ih38 hl38 p38 (hp38.trans (eN38.trans (itN_s i (st_X8_drawn_38 M a0) (0, M)).symm))
            rw [← pair_snd hp38, ← pair_fst hp38] at q38
            exact q38
      exact (lp38 0 (Nat.zero_le _) _ rfl).wk (Eq.refl 4) (wk_s rfl (wk_s rfl (wk_s rfl (wk_s rfl wk_0))))
    · refine r_aload_n (pc := 27) hG dX8_drawn_27 rfl ?_
      refine r_bipush (pc := 28) hG dX8_drawn_28 bc_m5 ?_
      refine cv_X8_refuse (pc := 30)  hG dX8_drawn_30 tw_390 (c_X8_refuse (bd_lit (n := 7) (by decide))) (by decide) (Nat.le_of_ble_eq_true rfl) ?_
      exact hret _ _ _ _ dX8_drawn_33 (pair_fst (show sp_X8_drawn M a0 = ((sp_X8_refuse M (-5)).1, (sp_X8_refuse M (-5)).2) from (by unfold sp_X8_drawn; exact ((if_pos c1).trans (if_pos c2))))) (pair_snd (show sp_X8_drawn M a0 = ((sp_X8_refuse M (-5)).1, (sp_X8_refuse M (-5)).2) from (by unfold sp_X8_drawn; exact ((if_pos c1).trans (if_pos c2)))))
  · refine r_aload_n (pc := 10) hG dX8_drawn_10 rfl ?_
    refine r_bipush (pc := 11) hG dX8_drawn_11 bc_m2 ?_
    refine cv_X8_refuse (pc := 13)  hG dX8_drawn_13 tw_390 (c_X8_refuse (bd_lit (n := 7) (by decide))) (by decide) (Nat.le_of_ble_eq_true rfl) ?_
    exact hret _ _ _ _ dX8_drawn_16 (pair_fst (show sp_X8_drawn M a0 = ((sp_X8_refuse M (-2)).1, (sp_X8_refuse M (-2)).2) from (by unfold sp_X8_drawn; exact (if_neg c1)))) (pair_snd (show sp_X8_drawn M a0 = ((sp_X8_refuse M (-2)).1, (sp_X8_refuse M (-2)).2) from (by unfold sp_X8_drawn; exact (if_neg c1))))
