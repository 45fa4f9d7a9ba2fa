theorem draw9_m {M : MT} {a : Int32} : (sp_X9_draw M a).2 = sdN M 5 := rfl
theorem c_X9_drawm {K : KT} {M : MT} {a0 : Int32} (hnz : ¬ a0 = 0) : CM K 1 yX9_draw cX9_draw 2 (some FieldType.int) [rf K 140, .int a0] M (some (.int (sp_X9_draw M a0).1)) (sdN M 5) := c_X9_draw hnz
theorem draw9_c {M : MT} {a : Int32} (h0 : ¬ a < 0) (hz : ¬ a = 0) : (sp_X9_draw M a).1 = (sp_X5_draw M 5 a).1 := by
  unfold sp_X9_draw sp_X5_draw
  have hle : ¬ a ≤ 0 := fun q => hz (Int32.le_antisymm q (Int32.not_lt.mp h0))
  first | rw [if_neg hle] | rw [if_pos (Int32.not_le.mp hle)]
  simp [u1]
theorem draw9_bd {M : MT} {a : Int32} {n : Nat} (ha : bd a (n + 1)) (h0 : ¬ a = 0) : bd (sp_X9_draw M a).1 n ∧ tn (sp_X9_draw M a).1 < tn a := by
  rw [draw9_c ha.1 h0]
  exact draw_bd ha h0

theorem drawn9_st {A : Type} {m x : A × MT} {d w f y P W : Int32} (e : x.2 = sp_X9_passes ((sp_X9_throwsOne (sdN (sdN (sdN (u1 (sdN m.2 5) 5 3 0 d) 5) 5) 5) w f y).2)) (h : m.2.1 5 1 0 = P ∧ m.2.1 5 0 0 = W) : x.2.1 5 1 0 = P ∧ x.2.1 5 0 0 = W := by
  rw [e, ps_p, ps_w, to_p, to_w]
  exact h

def st_X9_drawn_35 (M : MT) (a0 : Int32) (i : Nat) (b35 : Int32 × MT) : Int32 × MT :=
  if ((sp_X9_throwsOne (sdN (sdN (sdN (u1 (sdN b35.2 5) 5 3 0 ((sp_X9_draw b35.2 11).1)) 5) 5) 5) ((sp_X9_draw (u1 (sdN b35.2 5) 5 3 0 ((sp_X9_draw b35.2 11).1)) (b35.2.1 5 0 0)).1) ((sp_X9_draw (sdN (u1 (sdN b35.2 5) 5 3 0 ((sp_X9_draw b35.2 11).1)) 5) 10).1) ((sp_X9_draw (sdN (sdN (u1 (sdN b35.2 5) 5 3 0 ((sp_X9_draw b35.2 11).1)) 5) 5) 3).1)).1) = (-1) then
    (b35.1, sp_X9_passes ((sp_X9_throwsOne (sdN (sdN (sdN (u1 (sdN b35.2 5) 5 3 0 ((sp_X9_draw b35.2 11).1)) 5) 5) 5) ((sp_X9_draw (u1 (sdN b35.2 5) 5 3 0 ((sp_X9_draw b35.2 11).1)) (b35.2.1 5 0 0)).1) ((sp_X9_draw (sdN (u1 (sdN b35.2 5) 5 3 0 ((sp_X9_draw b35.2 11).1)) 5) 10).1) ((sp_X9_draw (sdN (sdN (u1 (sdN b35.2 5) 5 3 0 ((sp_X9_draw b35.2 11).1)) 5) 5) 3).1)).2))
  else
    (b35.1 + 1, sp_X9_passes ((sp_X9_throwsOne (sdN (sdN (sdN (u1 (sdN b35.2 5) 5 3 0 ((sp_X9_draw b35.2 11).1)) 5) 5) 5) ((sp_X9_draw (u1 (sdN b35.2 5) 5 3 0 ((sp_X9_draw b35.2 11).1)) (b35.2.1 5 0 0)).1) ((sp_X9_draw (sdN (u1 (sdN b35.2 5) 5 3 0 ((sp_X9_draw b35.2 11).1)) 5) 10).1) ((sp_X9_draw (sdN (sdN (u1 (sdN b35.2 5) 5 3 0 ((sp_X9_draw b35.2 11).1)) 5) 5) 3).1)).2))
def sp_X9_drawn (M : MT) (a0 : Int32) : Int32 × MT :=
  if (sp_X9_within a0 1 40) = true then
    if (M.1 5 0 0) = 0 then
      ((sp_X9_no M (-5)).1, (sp_X9_no M (-5)).2)
    else
      ((itN (tn a0) (st_X9_drawn_35 M a0) (0, M)).1, (itN (tn a0) (st_X9_drawn_35 M a0) (0, M)).2)
  else
    ((sp_X9_no M (-2)).1, (sp_X9_no M (-2)).2)
set_option maxRecDepth 20000 in
theorem c_X9_drawn {K : KT} {M : MT} {a0 : Int32}  (hokr : OKR M) : CM K 7 yX9_drawn cX9_drawn 6 (some FieldType.int) [rf K 140, .int a0] M (some (.int (sp_X9_drawn M a0).1)) (sp_X9_drawn M a0).2 := by
  refine CM.ofI (by decide) [some (rf K 140), some (.int a0), none, none, none, none] rfl (Nat.le_of_ble_eq_true rfl) (Nat.le_of_ble_eq_true rfl) (fun G hG _ hret => ?_)
  obtain ⟨hok5, hhl, htp5⟩ := id hokr
  obtain ⟨hwc5, hpc5, ⟨hcl5, hcm5⟩, hwi5, hda5, hle5, hk85, ha85, hW5, hP5⟩ := id hok5
  have hwl5 := bd_lt hwc5
  have hpl5 := bd_lt hpc5
  have hcl5l := bd_lt hcl5
  refine r_iload_n (pc := 0) hG dX9_drawn_0 rfl ?_
  refine r_iconst (pc := 1) hG dX9_drawn_1 ic_1 ?_
  refine r_bipush (pc := 2) hG dX9_drawn_2 bc_40 ?_
  refine cs_X9_within (pc := 4)  hG dX9_drawn_4 tw_1270 (c_X9_within) (by decide) (Nat.le_of_ble_eq_true rfl) ?_
  refine r_ifz_ne (pc := 7) (tgt := 17) hG dX9_drawn_7 (by decide) (fun c1 => ?_) (fun c1 => ?_)
  · refine r_aload_n (pc := 17) hG dX9_drawn_17 rfl ?_
    refine gf_X9_windows (pc := 18)  hG dX9_drawn_18 tw_1169 ?_
    refine r_if_ne (pc := 21) (tgt := 31) hG dX9_drawn_21 (by decide) (fun c2 => ?_) (fun c2 => ?_)
    · refine r_iconst (pc := 31) hG dX9_drawn_31 ic_0 ?_
      refine r_istore_n (pc := 32) (ls' := [_, _, _, _, _, _]) hG dX9_drawn_32 rfl rfl ?_
      refine r_iconst (pc := 33) hG dX9_drawn_33 ic_0 ?_
      refine r_istore_n (pc := 34) (ls' := [_, _, _, _, _, _]) hG dX9_drawn_34 rfl rfl ?_
      have hb35 : bd a0 41 := (wi5_bd1 (n := 40) c1 rfl (Nat.le_of_ble_eq_true rfl))
      have hb35l := bd_lt hb35
      have lp35 : ∀ i, i ≤ (tn a0) → ∀ b35 : Int32 × MT, b35 = itN i (st_X9_drawn_35 M a0) (0, M) → J G K b35.2 35 [some (rf K 140), some (.int a0), some (.int b35.1), some (.int (nI i)), none, none] [] := by
        refine up_ind (tn a0) (fun i hi35 ih35 => ?_)
        intro b35 hg35
        have hf35 : b35.2.1 5 1 0 = M.1 5 1 0 ∧ b35.2.1 5 0 0 = M.1 5 0 0 := by subst hg35; exact itN_inv (fun x : Int32 × MT => x.2.1 5 1 0 = M.1 5 1 0 ∧ x.2.1 5 0 0 = M.1 5 0 0) i ⟨rfl, rfl⟩ (fun k m hk hm => drawn9_st ((congrArg Prod.snd (st_X9_drawn_35.eq_1 M a0 k m)).trans ite_snd) hm)
        have hp355 : bd (b35.2.1 5 1 0) 9 := by rw [hf35.1]; exact hpc5
        have hw355 : bd (b35.2.1 5 0 0) 9 := by rw [hf35.2]; exact hwc5
        have hz355 : ¬ b35.2.1 5 0 0 = 0 := by rw [hf35.2]; exact c2
        refine r_iload_n (pc := 35) hG dX9_drawn_35 rfl ?_
        refine r_iload_n (pc := 36) hG dX9_drawn_36 rfl ?_
        refine r_icmp_ge (pc := 37) (tgt := 100) hG dX9_drawn_37 (by decide) (fun c3 => ?_) (fun c3 => ?_)
        · have e35 : i = (tn a0) := by have := (bd_le hb35 (by omega)).mp c3; omega
          subst hg35
          subst e35
          refine r_iload_n (pc := 100) hG dX9_drawn_100 rfl ?_
          exact hret _ _ _ _ dX9_drawn_101 (pair_fst (show sp_X9_drawn M a0 = ((itN (tn a0) (st_X9_drawn_35 M a0) (0, M)).1, (itN (tn a0) (st_X9_drawn_35 M a0) (0, M)).2) from (by unfold sp_X9_drawn; exact ((if_pos c1).trans (if_neg c2))))) (pair_snd (show sp_X9_drawn M a0 = ((itN (tn a0) (st_X9_drawn_35 M a0) (0, M)).1, (itN (tn a0) (st_X9_drawn_35 M a0) (0, M)).2) from (by unfold sp_X9_drawn; exact ((if_pos c1).trans (if_neg c2)))))
        · have hl35 : i < (tn a0) := by have := mt (bd_le hb35 (by omega)).mpr c3; omega
          refine r_aload_n (pc := 40) hG dX9_drawn_40 rfl ?_
          refine gf_X9_ways (pc := 41)  hG dX9_drawn_41 tw_1167 ?_
          refine r_iconst (pc := 44) hG dX9_drawn_44 ic_0 ?_
          refine r_aload_n (pc := 45) hG dX9_drawn_45 rfl ?_
          refine r_bipush (pc := 46) hG dX9_drawn_46 bc_11 ?_
          refine cv_X9_draw (pc := 48)  hG dX9_drawn_48 tw_1690 (c_X9_drawm (by decide)) (by decide) (Nat.le_of_ble_eq_true rfl) ?_
          refine as_Mways (pc := 51)  hG dX9_drawn_51 (ix_lit (j := 0) (by decide)) ?_
          refine r_aload_n (pc := 52) hG dX9_drawn_52 rfl ?_
          refine r_aload_n (pc := 53) hG dX9_drawn_53 rfl ?_
          refine gf_X9_windows (pc := 54)  hG dX9_drawn_54 tw_1169 ?_
          refine cv_X9_draw (pc := 57)  hG dX9_drawn_57 tw_1690 (c_X9_drawm hz355) (by decide) (Nat.le_of_ble_eq_true rfl) ?_
          refine r_istore (pc := 60) (ls' := [_, _, _, _, _, _]) hG dX9_drawn_60 rfl rfl ?_
          refine r_aload_n (pc := 62) hG dX9_drawn_62 rfl ?_
          refine r_bipush (pc := 63) hG dX9_drawn_63 bc_10 ?_
          refine cv_X9_draw (pc := 65)  hG dX9_drawn_65 tw_1690 (c_X9_drawm (by decide)) (by decide) (Nat.le_of_ble_eq_true rfl) ?_
          refine r_istore (pc := 68) (ls' := [_, _, _, _, _, _]) hG dX9_drawn_68 rfl rfl ?_
          refine r_aload_n (pc := 70) hG dX9_drawn_70 rfl ?_
          refine r_iload (pc := 71) hG dX9_drawn_71 rfl ?_
          refine r_iload (pc := 73) hG dX9_drawn_73 rfl ?_
          refine r_aload_n (pc := 75) hG dX9_drawn_75 rfl ?_
          refine r_iconst (pc := 76) hG dX9_drawn_76 ic_3 ?_
          refine cv_X9_draw (pc := 77)  hG dX9_drawn_77 tw_1690 (c_X9_drawm (by decide)) (by decide) (Nat.le_of_ble_eq_true rfl) ?_
          refine cv_X9_throwsOne (pc := 80)  hG dX9_drawn_80 tw_1674 (c_X9_throwsOne (draw9_bd (n := 8) hw355 hz355).1 hp355) (by decide) (Nat.le_of_ble_eq_true rfl) ?_
          refine r_iconst (pc := 83) hG dX9_drawn_83 ic_m1 ?_
          refine r_icmp_eq (pc := 84) (tgt := 90) hG dX9_drawn_84 (by decide) (fun c4 => ?_) (fun c4 => ?_)
          · refine r_aload_n (pc := 90) hG dX9_drawn_90 rfl ?_
            refine cv_X9_passes (pc := 91)  hG dX9_drawn_91 tw_1682 (c_X9_passes (by rw [to_p]; exact hp355)) (by decide) (Nat.le_of_ble_eq_true rfl) ?_
            refine r_iinc (pc := 94) (v := nI (i + 1)) (ls' := [_, _, _, _, _, _]) hG dX9_drawn_94 rfl (nI_1 _) rfl rfl ?_
            refine r_goto (pc := 97) (tgt := 35) hG dX9_drawn_97 (by decide) ?_
            have eN35 : (b35.1, sp_X9_passes ((sp_X9_throwsOne (sdN (sdN (sdN (u1 (sdN b35.2 5) 5 3 0 ((sp_X9_draw b35.2 11).1)) 5) 5) 5) ((sp_X9_draw (u1 (sdN b35.2 5) 5 3 0 ((sp_X9_draw b35.2 11).1)) (b35.2.1 5 0 0)).1) ((sp_X9_draw (sdN (u1 (sdN b35.2 5) 5 3 0 ((sp_X9_draw b35.2 11).1)) 5) 10).1) ((sp_X9_draw (sdN (sdN (u1 (sdN b35.2 5) 5 3 0 ((sp_X9_draw b35.2 11).1)) 5) 5) 3).1)).2)) = st_X9_drawn_35 M a0 i (itN i (st_X9_drawn_35 M a0) (0, M)) := by rw [← hg35]; unfold st_X9_drawn_35; exact Eq.symm (if_pos c4)
            refine J.wk (ls' := [some (rf K 140), some (.int a0), some (.int b35.1), some (.int (nI (i + 1))), none, none]) ?_ (Eq.refl 6) (wk_s rfl (wk_s rfl (wk_s rfl (wk_s rfl (wk_n (wk_n wk_0))))))
            obtain ⟨p35, hp35⟩ : ∃ p, p = (b35.1, sp_X9_passes ((sp_X9_throwsOne (sdN (sdN (sdN (u1 (sdN b35.2 5) 5 3 0 ((sp_X9_draw b35.2 11).1)) 5) 5) 5) ((sp_X9_draw (u1 (sdN b35.2 5) 5 3 0 ((sp_X9_draw b35.2 11).1)) (b35.2.1 5 0 0)).1) ((sp_X9_draw (sdN (u1 (sdN b35.2 5) 5 3 0 ((sp_X9_draw b35.2 11).1)) 5) 10).1) ((sp_X9_draw (sdN (sdN (u1 (sdN b35.2 5) 5 3 0 ((sp_X9_draw b35.2 11).1)) 5) 5) 3).1)).2)) := ⟨_, rfl⟩
            have q35 := ih35 hl35 p35 (hp35.trans (eN35.trans (itN_s i (st_X9_drawn_35 M a0) (0, M)).symm))
            rw [← pair_snd hp35, ← pair_fst hp35] at q35
            exact q35
          · refine r_iinc (pc := 87) (v := b35.1 + 1) (ls' := [_, _, _, _, _, _]) hG dX9_drawn_87 rfl rfl rfl rfl ?_
            refine r_aload_n (pc := 90) hG dX9_drawn_90 rfl ?_
            refine cv_X9_passes (pc := 91)  hG dX9_drawn_91 tw_1682 (c_X9_passes (by rw [to_p]; exact hp355)) (by decide) (Nat.le_of_ble_eq_true rfl) ?_
            refine r_iinc (pc := 94) (v := nI (i + 1)) (ls' := [_, _, _, _, _, _]) hG dX9_drawn_94 rfl (nI_1 _) rfl rfl ?_
            refine r_goto (pc := 97) (tgt := 35) hG dX9_drawn_97 (by decide) ?_
            have eN35 : (b35.1 + 1, sp_X9_passes ((sp_X9_throwsOne (sdN (sdN (sdN (u1 (sdN b35.2 5) 5 3 0 ((sp_X9_draw b35.2 11).1)) 5) 5) 5) ((sp_X9_draw (u1 (sdN b35.2 5) 5 3 0 ((sp_X9_draw b35.2 11).1)) (b35.2.1 5 0 0)).1) ((sp_X9_draw (sdN (u1 (sdN b35.2 5) 5 3 0 ((sp_X9_draw b35.2 11).1)) 5) 10).1) ((sp_X9_draw (sdN (sdN (u1 (sdN b35.2 5) 5 3 0 ((sp_X9_draw b35.2 11).1)) 5) 5) 3).1)).2)) = st_X9_drawn_35 M a0 i (itN i (st_X9_drawn_35 M a0) (0, M)) := by rw [← hg35]; unfold st_X9_drawn_35; exact Eq.symm (if_neg c4)
            refine J.wk (ls' := [some (rf K 140), some (.int a0), some (.int (b35.1 + 1)), some (.int (nI (i + 1))), none, none]) ?_ (Eq.refl 6) (wk_s rfl (wk_s rfl (wk_s rfl (wk_s rfl (wk_n (wk_n wk_0))))))
            obtain ⟨p35, hp35⟩ : ∃ p, p = (b35.1 + 1, sp_X9_passes ((sp_X9_throwsOne (sdN (sdN (sdN (u1 (sdN b35.2 5) 5 3 0 ((sp_X9_draw b35.2 11).1)) 5) 5) 5) ((sp_X9_draw (u1 (sdN b35.2 5) 5 3 0 ((sp_X9_draw b35.2 11).1)) (b35.2.1 5 0 0)).1) ((sp_X9_draw (sdN (u1 (sdN b35.2 5) 5 3 0 ((sp_X9_draw b35.2 11).1)) 5) 10).1) ((sp_X9_draw (sdN (sdN (u1 (sdN b35.2 5) 5 3 0 ((sp_X9_draw b35.2 11).1)) 5) 5) 3).1)).2)) := ⟨_, rfl⟩
            have q35 := ih35 hl35 p35 (hp35.trans (eN35.trans (itN_s i (st_X9_drawn_35 M a0) (0, M)).symm))
            rw [← pair_snd hp35, ← pair_fst hp35] at q35
            exact q35
      exact (lp35 0 (Nat.zero_le _) _ rfl).wk (Eq.refl 6) (wk_s rfl (wk_s rfl (wk_s rfl (wk_s rfl (wk_n (wk_n wk_0))))))
    · refine r_aload_n (pc := 24) hG dX9_drawn_24 rfl ?_
      refine r_bipush (pc := 25) hG dX9_drawn_25 bc_m5 ?_
      refine cv_X9_no (pc := 27)  hG dX9_drawn_27 tw_1273 (c_X9_no (bd_lit (n := 7) (by decide))) (by decide) (Nat.le_of_ble_eq_true rfl) ?_
      exact hret _ _ _ _ dX9_drawn_30 (pair_fst (show sp_X9_drawn M a0 = ((sp_X9_no M (-5)).1, (sp_X9_no M (-5)).2) from (by unfold sp_X9_drawn; exact ((if_pos c1).trans (if_pos c2))))) (pair_snd (show sp_X9_drawn M a0 = ((sp_X9_no M (-5)).1, (sp_X9_no M (-5)).2) from (by unfold sp_X9_drawn; exact ((if_pos c1).trans (if_pos c2)))))
  · refine r_aload_n (pc := 10) hG dX9_drawn_10 rfl ?_
    refine r_bipush (pc := 11) hG dX9_drawn_11 bc_m2 ?_
    refine cv_X9_no (pc := 13)  hG dX9_drawn_13 tw_1273 (c_X9_no (bd_lit (n := 7) (by decide))) (by decide) (Nat.le_of_ble_eq_true rfl) ?_
    exact hret _ _ _ _ dX9_drawn_16 (pair_fst (show sp_X9_drawn M a0 = ((sp_X9_no M (-2)).1, (sp_X9_no M (-2)).2) from (by unfold sp_X9_drawn; exact (if_neg c1)))) (pair_snd (show sp_X9_drawn M a0 = ((sp_X9_no M (-2)).1, (sp_X9_no M (-2)).2) from (by unfold sp_X9_drawn; exact (if_neg c1))))

def st_X9_keepO_109 (M : MT) (i : Nat) (b109 : MT) : MT :=
  u2 b109 35 (tn (64 + (nI i))) (b109.1 5 3 i)
def st_X9_keepO_2 (M : MT) (i : Nat) (b2 : MT) : MT :=
  u2 (u2 (u2 (u2 (u2 (u2 (u2 (u2 b2 35 i (b2.1 5 6 i)) 35 (tn (8 + (nI i))) (b2.1 5 7 i)) 35 (tn (16 + (nI i))) (b2.1 5 8 i)) 35 (tn (24 + (nI i))) (b2.1 5 9 i)) 35 (tn (32 + (nI i))) (b2.1 5 10 i)) 35 (tn (40 + (nI i))) (b2.1 5 11 i)) 35 (tn (48 + (nI i))) (b2.1 5 12 i)) 35 (tn (56 + (nI i))) (b2.1 5 13 i)
def sp_X9_keepO (M : MT) : MT :=
  (u2 (u2 (u2 (u2 (u2 (itN 3 (st_X9_keepO_109 M) (itN 8 (st_X9_keepO_2 M) M)) 35 67 ((itN 3 (st_X9_keepO_109 M) (itN 8 (st_X9_keepO_2 M) M)).1 5 2 0)) 35 68 ((itN 3 (st_X9_keepO_109 M) (itN 8 (st_X9_keepO_2 M) M)).1 5 4 0)) 35 69 ((itN 3 (st_X9_keepO_109 M) (itN 8 (st_X9_keepO_2 M) M)).1 5 0 0)) 35 70 ((itN 3 (st_X9_keepO_109 M) (itN 8 (st_X9_keepO_2 M) M)).1 5 1 0)) 35 71 ((itN 3 (st_X9_keepO_109 M) (itN 8 (st_X9_keepO_2 M) M)).1 5 5 0))
set_option maxRecDepth 20000 in
theorem c_X9_keepO {K : KT} {M : MT}    : CM K 1 yX9_keep cX9_keep 3 none [rf K 140, rf K 155] M none (sp_X9_keepO M) := by
  refine CM.ofV (by decide) [some (rf K 140), some (rf K 155), none] rfl (Nat.le_of_ble_eq_true rfl) (Nat.le_of_ble_eq_true rfl) (fun G hG _ hret => ?_)
  refine r_iconst (pc := 0) hG dX9_keep_0 ic_0 ?_
  refine r_istore_n (pc := 1) (ls' := [_, _, _]) hG dX9_keep_1 rfl rfl ?_
  have lp2 : ∀ i, i ≤ 8 → ∀ b2 : MT, b2 = itN i (st_X9_keepO_2 M) M → J G K b2 2 [some (rf K 140), some (rf K 155), some (.int (nI i))] [] := by
    refine up_ind 8 (fun i hi2 ih2 => ?_)
    intro b2 hg2
    refine r_iload_n (pc := 2) hG dX9_keep_2 rfl ?_
    refine r_bipush (pc := 3) hG dX9_keep_3 bc_8 ?_
    refine r_icmp_ge (pc := 5) (tgt := 107) hG dX9_keep_5 (by decide) (fun c1 => ?_) (fun c1 => ?_)
    · have e2 : i = 8 := by have := (le_nI (k := 8) (i := i) (Nat.le_of_ble_eq_true rfl) (by omega)).mp c1; omega
      subst hg2
      subst e2
      refine r_iconst (pc := 107) hG dX9_keep_107 ic_0 ?_
      refine r_istore_n (pc := 108) (ls' := [_, _, _]) hG dX9_keep_108 rfl rfl ?_
      have lp109 : ∀ i, i ≤ 3 → ∀ b109 : MT, b109 = itN i (st_X9_keepO_109 M) (itN 8 (st_X9_keepO_2 M) M) → J G K b109 109 [some (rf K 140), some (rf K 155), some (.int (nI i))] [] := by
        refine up_ind 3 (fun i hi109 ih109 => ?_)
        intro b109 hg109
        refine r_iload_n (pc := 109) hG dX9_keep_109 rfl ?_
        refine r_iconst (pc := 110) hG dX9_keep_110 ic_3 ?_
        refine r_icmp_ge (pc := 111) (tgt := 132) hG dX9_keep_111 (by decide) (fun c2 => ?_) (fun c2 => ?_)
        · have e109 : i = 3 := by have := (le_nI (k := 3) (i := i) (Nat.le_of_ble_eq_true rfl) (by omega)).mp c2; omega
          subst hg109
          subst e109
          refine r_aload_n (pc := 132) hG dX9_keep_132 rfl ?_
          refine r_bipush (pc := 133) hG dX9_keep_133 bc_67 ?_
          refine r_aload_n (pc := 135) hG dX9_keep_135 rfl ?_
          refine gf_X9_n (pc := 136)  hG dX9_keep_136 tw_1166 ?_
          refine as_Mold (pc := 139)  hG dX9_keep_139 (ix_lit (j := 67) (by decide)) ?_
          refine r_aload_n (pc := 140) hG dX9_keep_140 rfl ?_
          refine r_bipush (pc := 141) hG dX9_keep_141 bc_68 ?_
          refine r_aload_n (pc := 143) hG dX9_keep_143 rfl ?_
          refine gf_X9_said (pc := 144)  hG dX9_keep_144 tw_1168 ?_
          refine as_Mold (pc := 147)  hG dX9_keep_147 (ix_lit (j := 68) (by decide)) ?_
          refine r_aload_n (pc := 148) hG dX9_keep_148 rfl ?_
          refine r_bipush (pc := 149) hG dX9_keep_149 bc_69 ?_
          refine r_aload_n (pc := 151) hG dX9_keep_151 rfl ?_
          refine gf_X9_windows (pc := 152)  hG dX9_keep_152 tw_1169 ?_
          refine as_Mold (pc := 155)  hG dX9_keep_155 (ix_lit (j := 69) (by decide)) ?_
          refine r_aload_n (pc := 156) hG dX9_keep_156 rfl ?_
          refine r_bipush (pc := 157) hG dX9_keep_157 bc_70 ?_
          refine r_aload_n (pc := 159) hG dX9_keep_159 rfl ?_
          refine gf_X9_people (pc := 160)  hG dX9_keep_160 tw_1173 ?_
          refine as_Mold (pc := 163)  hG dX9_keep_163 (ix_lit (j := 70) (by decide)) ?_
          refine r_aload_n (pc := 164) hG dX9_keep_164 rfl ?_
          refine r_bipush (pc := 165) hG dX9_keep_165 bc_71 ?_
          refine r_aload_n (pc := 167) hG dX9_keep_167 rfl ?_
          refine gf_X9_seed (pc := 168)  hG dX9_keep_168 tw_1179 ?_
          refine as_Mold (pc := 171)  hG dX9_keep_171 (ix_lit (j := 71) (by decide)) ?_
          exact hret _ _ _ dX9_keep_172 (Eq.symm (by unfold sp_X9_keepO; exact rfl))
        · have hl109 : i < 3 := by have := mt (le_nI (k := 3) (i := i) (Nat.le_of_ble_eq_true rfl) (by omega)).mpr c2; omega
          refine r_aload_n (pc := 114) hG dX9_keep_114 rfl ?_
          refine r_bipush (pc := 115) hG dX9_keep_115 bc_64 ?_
          refine r_iload_n (pc := 117) hG dX9_keep_117 rfl ?_
          refine r_iadd (pc := 118) hG dX9_keep_118 ?_
          refine r_aload_n (pc := 119) hG dX9_keep_119 rfl ?_
          refine gf_X9_ways (pc := 120)  hG dX9_keep_120 tw_1167 ?_
          refine r_iload_n (pc := 123) hG dX9_keep_123 rfl ?_
          refine al_Mways (pc := 124)  hG dX9_keep_124 (ix_nI (by omega) (Nat.le_of_ble_eq_true rfl)) ?_
          refine as_Mold (pc := 125)  hG dX9_keep_125 (ix_bd (add_ix (a := 64) (n := 3) (by omega) (by decide) (by decide))) ?_
          refine r_iinc (pc := 126) (v := nI (i + 1)) (ls' := [_, _, _]) hG dX9_keep_126 rfl (nI_1 _) rfl rfl ?_
          refine r_goto (pc := 129) (tgt := 109) hG dX9_keep_129 (by decide) ?_
          have eN109 : u2 b109 35 (tn (64 + (nI i))) (b109.1 5 3 i) = st_X9_keepO_109 M i (itN i (st_X9_keepO_109 M) (itN 8 (st_X9_keepO_2 M) M)) := by rw [← hg109]; unfold st_X9_keepO_109; exact Eq.symm rfl
          refine J.wk (ls' := [some (rf K 140), some (rf K 155), some (.int (nI (i + 1)))]) ?_ (Eq.refl 3) (wk_s rfl (wk_s rfl (wk_s rfl wk_0)))
          exact ih109 hl109 (u2 b109 35 (tn (64 + (nI i))) (b109.1 5 3 i)) eN109
      exact (lp109 0 (Nat.zero_le _) _ rfl).wk (Eq.refl 3) (wk_s rfl (wk_s rfl (wk_s rfl wk_0)))
    · have hl2 : i < 8 := by have := mt (le_nI (k := 8) (i := i) (Nat.le_of_ble_eq_true rfl) (by omega)).mpr c1; omega
      refine r_aload_n (pc := 8) hG dX9_keep_8 rfl ?_
      refine r_iload_n (pc := 9) hG dX9_keep_9 rfl ?_
      refine r_aload_n (pc := 10) hG dX9_keep_10 rfl ?_
      refine gf_X9_at (pc := 11)  hG dX9_keep_11 tw_1170 ?_
      refine r_iload_n (pc := 14) hG dX9_keep_14 rfl ?_
      refine al_Mat (pc := 15)  hG dX9_keep_15 (ix_nI (by omega) (Nat.le_of_ble_eq_true rfl)) ?_
      refine as_Mold (pc := 16)  hG dX9_keep_16 (ix_nI (by omega) (Nat.le_of_ble_eq_true rfl)) ?_
      refine r_aload_n (pc := 17) hG dX9_keep_17 rfl ?_
      refine r_bipush (pc := 18) hG dX9_keep_18 bc_8 ?_
      refine r_iload_n (pc := 20) hG dX9_keep_20 rfl ?_
      refine r_iadd (pc := 21) hG dX9_keep_21 ?_
      refine r_aload_n (pc := 22) hG dX9_keep_22 rfl ?_
      refine gf_X9_floor (pc := 23)  hG dX9_keep_23 tw_1171 ?_
      refine r_iload_n (pc := 26) hG dX9_keep_26 rfl ?_
      refine al_Mfloor (pc := 27)  hG dX9_keep_27 (ix_nI (by omega) (Nat.le_of_ble_eq_true rfl)) ?_
      refine as_Mold (pc := 28)  hG dX9_keep_28 (ix_bd (add_ix (a := 8) (n := 8) (by omega) (by decide) (by decide))) ?_
      refine r_aload_n (pc := 29) hG dX9_keep_29 rfl ?_
      refine r_bipush (pc := 30) hG dX9_keep_30 bc_16 ?_
      refine r_iload_n (pc := 32) hG dX9_keep_32 rfl ?_
      refine r_iadd (pc := 33) hG dX9_keep_33 ?_
      refine r_aload_n (pc := 34) hG dX9_keep_34 rfl ?_
      refine gf_X9_thorns (pc := 35)  hG dX9_keep_35 tw_1172 ?_
      refine r_iload_n (pc := 38) hG dX9_keep_38 rfl ?_
      refine al_Mthorns (pc := 39)  hG dX9_keep_39 (ix_nI (by omega) (Nat.le_of_ble_eq_true rfl)) ?_
      refine as_Mold (pc := 40)  hG dX9_keep_40 (ix_bd (add_ix (a := 16) (n := 8) (by omega) (by decide) (by decide))) ?_
      refine r_aload_n (pc := 41) hG dX9_keep_41 rfl ?_
      refine r_bipush (pc := 42) hG dX9_keep_42 bc_24 ?_
      refine r_iload_n (pc := 44) hG dX9_keep_44 rfl ?_
      refine r_iadd (pc := 45) hG dX9_keep_45 ?_
      refine r_aload_n (pc := 46) hG dX9_keep_46 rfl ?_
      refine gf_X9_kind (pc := 47)  hG dX9_keep_47 tw_1174 ?_
      refine r_iload_n (pc := 50) hG dX9_keep_50 rfl ?_
      refine al_Mkind (pc := 51)  hG dX9_keep_51 (ix_nI (by omega) (Nat.le_of_ble_eq_true rfl)) ?_
      refine as_Mold (pc := 52)  hG dX9_keep_52 (ix_bd (add_ix (a := 24) (n := 8) (by omega) (by decide) (by decide))) ?_
      refine r_aload_n (pc := 53) hG dX9_keep_53 rfl ?_
      refine r_bipush (pc := 54) hG dX9_keep_54 bc_32 ?_
      refine r_iload_n (pc := 56) hG dX9_keep_56 rfl ?_
      refine r_iadd (pc := 57) hG dX9_keep_57 ?_
      refine r_aload_n (pc := 58) hG dX9_keep_58 rfl ?_
      refine gf_X9_own (pc := 59)  hG dX9_keep_59 tw_1175 ?_
      refine r_iload_n (pc := 62) hG dX9_keep_62 rfl ?_
      refine al_Mown (pc := 63)  hG dX9_keep_63 (ix_nI (by omega) (Nat.le_of_ble_eq_true rfl)) ?_
      refine as_Mold (pc := 64)  hG dX9_keep_64 (ix_bd (add_ix (a := 32) (n := 8) (by omega) (by decide) (by decide))) ?_
      refine r_aload_n (pc := 65) hG dX9_keep_65 rfl ?_
      refine r_bipush (pc := 66) hG dX9_keep_66 bc_40 ?_
      refine r_iload_n (pc := 68) hG dX9_keep_68 rfl ?_
      refine r_iadd (pc := 69) hG dX9_keep_69 ?_
      refine r_aload_n (pc := 70) hG dX9_keep_70 rfl ?_
      refine gf_X9_place (pc := 71)  hG dX9_keep_71 tw_1176 ?_
      refine r_iload_n (pc := 74) hG dX9_keep_74 rfl ?_
      refine al_Mplace (pc := 75)  hG dX9_keep_75 (ix_nI (by omega) (Nat.le_of_ble_eq_true rfl)) ?_
      refine as_Mold (pc := 76)  hG dX9_keep_76 (ix_bd (add_ix (a := 40) (n := 8) (by omega) (by decide) (by decide))) ?_
      refine r_aload_n (pc := 77) hG dX9_keep_77 rfl ?_
      refine r_bipush (pc := 78) hG dX9_keep_78 bc_48 ?_
      refine r_iload_n (pc := 80) hG dX9_keep_80 rfl ?_
      refine r_iadd (pc := 81) hG dX9_keep_81 ?_
      refine r_aload_n (pc := 82) hG dX9_keep_82 rfl ?_
      refine gf_X9_rose (pc := 83)  hG dX9_keep_83 tw_1177 ?_
      refine r_iload_n (pc := 86) hG dX9_keep_86 rfl ?_
      refine al_Mrose (pc := 87)  hG dX9_keep_87 (ix_nI (by omega) (Nat.le_of_ble_eq_true rfl)) ?_
      refine as_Mold (pc := 88)  hG dX9_keep_88 (ix_bd (add_ix (a := 48) (n := 8) (by omega) (by decide) (by decide))) ?_
      refine r_aload_n (pc := 89) hG dX9_keep_89 rfl ?_
      refine r_bipush (pc := 90) hG dX9_keep_90 bc_56 ?_
      refine r_iload_n (pc := 92) hG dX9_keep_92 rfl ?_
      refine r_iadd (pc := 93) hG dX9_keep_93 ?_
      refine r_aload_n (pc := 94) hG dX9_keep_94 rfl ?_
      refine gf_X9_due (pc := 95)  hG dX9_keep_95 tw_1178 ?_
      refine r_iload_n (pc := 98) hG dX9_keep_98 rfl ?_
      refine al_Mdue (pc := 99)  hG dX9_keep_99 (ix_nI (by omega) (Nat.le_of_ble_eq_true rfl)) ?_
      refine as_Mold (pc := 100)  hG dX9_keep_100 (ix_bd (add_ix (a := 56) (n := 8) (by omega) (by decide) (by decide))) ?_
      refine r_iinc (pc := 101) (v := nI (i + 1)) (ls' := [_, _, _]) hG dX9_keep_101 rfl (nI_1 _) rfl rfl ?_
      refine r_goto (pc := 104) (tgt := 2) hG dX9_keep_104 (by decide) ?_
      have eN2 : u2 (u2 (u2 (u2 (u2 (u2 (u2 (u2 b2 35 i (b2.1 5 6 i)) 35 (tn (8 + (nI i))) (b2.1 5 7 i)) 35 (tn (16 + (nI i))) (b2.1 5 8 i)) 35 (tn (24 + (nI i))) (b2.1 5 9 i)) 35 (tn (32 + (nI i))) (b2.1 5 10 i)) 35 (tn (40 + (nI i))) (b2.1 5 11 i)) 35 (tn (48 + (nI i))) (b2.1 5 12 i)) 35 (tn (56 + (nI i))) (b2.1 5 13 i) = st_X9_keepO_2 M i (itN i (st_X9_keepO_2 M) M) := by rw [← hg2]; unfold st_X9_keepO_2; exact Eq.symm rfl
      refine J.wk (ls' := [some (rf K 140), some (rf K 155), some (.int (nI (i + 1)))]) ?_ (Eq.refl 3) (wk_s rfl (wk_s rfl (wk_s rfl wk_0)))
      exact ih2 hl2 (u2 (u2 (u2 (u2 (u2 (u2 (u2 (u2 b2 35 i (b2.1 5 6 i)) 35 (tn (8 + (nI i))) (b2.1 5 7 i)) 35 (tn (16 + (nI i))) (b2.1 5 8 i)) 35 (tn (24 + (nI i))) (b2.1 5 9 i)) 35 (tn (32 + (nI i))) (b2.1 5 10 i)) 35 (tn (40 + (nI i))) (b2.1 5 11 i)) 35 (tn (48 + (nI i))) (b2.1 5 12 i)) 35 (tn (56 + (nI i))) (b2.1 5 13 i)) eN2
  exact (lp2 0 (Nat.zero_le _) _ rfl).wk (Eq.refl 3) (wk_s rfl (wk_s rfl (wk_s rfl wk_0)))

def st_X9_againO_109 (M : MT) (i : Nat) (b109 : MT) : MT :=
  u1 b109 5 3 i (b109.2.1 35 (tn (64 + (nI i))))
def st_X9_againO_2 (M : MT) (i : Nat) (b2 : MT) : MT :=
  u1 (u1 (u1 (u1 (u1 (u1 (u1 (u1 b2 5 6 i (b2.2.1 35 i)) 5 7 i (b2.2.1 35 (tn (8 + (nI i))))) 5 8 i (b2.2.1 35 (tn (16 + (nI i))))) 5 9 i (b2.2.1 35 (tn (24 + (nI i))))) 5 10 i (b2.2.1 35 (tn (32 + (nI i))))) 5 11 i (b2.2.1 35 (tn (40 + (nI i))))) 5 12 i (b2.2.1 35 (tn (48 + (nI i))))) 5 13 i (b2.2.1 35 (tn (56 + (nI i))))
def sp_X9_againO (M : MT) : MT :=
  (u1 (u1 (u1 (u1 (u1 (itN 3 (st_X9_againO_109 M) (itN 8 (st_X9_againO_2 M) M)) 5 2 0 ((itN 3 (st_X9_againO_109 M) (itN 8 (st_X9_againO_2 M) M)).2.1 35 67)) 5 4 0 ((itN 3 (st_X9_againO_109 M) (itN 8 (st_X9_againO_2 M) M)).2.1 35 68)) 5 0 0 ((itN 3 (st_X9_againO_109 M) (itN 8 (st_X9_againO_2 M) M)).2.1 35 69)) 5 1 0 ((itN 3 (st_X9_againO_109 M) (itN 8 (st_X9_againO_2 M) M)).2.1 35 70)) 5 5 0 ((itN 3 (st_X9_againO_109 M) (itN 8 (st_X9_againO_2 M) M)).2.1 35 71))
set_option maxRecDepth 20000 in
theorem c_X9_againO {K : KT} {M : MT}    : CM K 1 yX9_again cX9_again 3 none [rf K 140, rf K 155] M none (sp_X9_againO M) := by
  refine CM.ofV (by decide) [some (rf K 140), some (rf K 155), none] rfl (Nat.le_of_ble_eq_true rfl) (Nat.le_of_ble_eq_true rfl) (fun G hG _ hret => ?_)
  refine r_iconst (pc := 0) hG dX9_again_0 ic_0 ?_
  refine r_istore_n (pc := 1) (ls' := [_, _, _]) hG dX9_again_1 rfl rfl ?_
  have lp2 : ∀ i, i ≤ 8 → ∀ b2 : MT, b2 = itN i (st_X9_againO_2 M) M → J G K b2 2 [some (rf K 140), some (rf K 155), some (.int (nI i))] [] := by
    refine up_ind 8 (fun i hi2 ih2 => ?_)
    intro b2 hg2
    refine r_iload_n (pc := 2) hG dX9_again_2 rfl ?_
    refine r_bipush (pc := 3) hG dX9_again_3 bc_8 ?_
    refine r_icmp_ge (pc := 5) (tgt := 107) hG dX9_again_5 (by decide) (fun c1 => ?_) (fun c1 => ?_)
    · have e2 : i = 8 := by have := (le_nI (k := 8) (i := i) (Nat.le_of_ble_eq_true rfl) (by omega)).mp c1; omega
      subst hg2
      subst e2
      refine r_iconst (pc := 107) hG dX9_again_107 ic_0 ?_
      refine r_istore_n (pc := 108) (ls' := [_, _, _]) hG dX9_again_108 rfl rfl ?_
      have lp109 : ∀ i, i ≤ 3 → ∀ b109 : MT, b109 = itN i (st_X9_againO_109 M) (itN 8 (st_X9_againO_2 M) M) → J G K b109 109 [some (rf K 140), some (rf K 155), some (.int (nI i))] [] := by
        refine up_ind 3 (fun i hi109 ih109 => ?_)
        intro b109 hg109
        refine r_iload_n (pc := 109) hG dX9_again_109 rfl ?_
        refine r_iconst (pc := 110) hG dX9_again_110 ic_3 ?_
        refine r_icmp_ge (pc := 111) (tgt := 132) hG dX9_again_111 (by decide) (fun c2 => ?_) (fun c2 => ?_)
        · have e109 : i = 3 := by have := (le_nI (k := 3) (i := i) (Nat.le_of_ble_eq_true rfl) (by omega)).mp c2; omega
          subst hg109
          subst e109
          refine r_aload_n (pc := 132) hG dX9_again_132 rfl ?_
          refine r_aload_n (pc := 133) hG dX9_again_133 rfl ?_
          refine r_bipush (pc := 134) hG dX9_again_134 bc_67 ?_
          refine al_Mold (pc := 136)  hG dX9_again_136 (ix_lit (j := 67) (by decide)) ?_
          refine pf_X9_n (pc := 137)  hG dX9_again_137 tw_1166 ?_
          refine r_aload_n (pc := 140) hG dX9_again_140 rfl ?_
          refine r_aload_n (pc := 141) hG dX9_again_141 rfl ?_
          refine r_bipush (pc := 142) hG dX9_again_142 bc_68 ?_
          refine al_Mold (pc := 144)  hG dX9_again_144 (ix_lit (j := 68) (by decide)) ?_
          refine pf_X9_said (pc := 145)  hG dX9_again_145 tw_1168 ?_
          refine r_aload_n (pc := 148) hG dX9_again_148 rfl ?_
          refine r_aload_n (pc := 149) hG dX9_again_149 rfl ?_
          refine r_bipush (pc := 150) hG dX9_again_150 bc_69 ?_
          refine al_Mold (pc := 152)  hG dX9_again_152 (ix_lit (j := 69) (by decide)) ?_
          refine pf_X9_windows (pc := 153)  hG dX9_again_153 tw_1169 ?_
          refine r_aload_n (pc := 156) hG dX9_again_156 rfl ?_
          refine r_aload_n (pc := 157) hG dX9_again_157 rfl ?_
          refine r_bipush (pc := 158) hG dX9_again_158 bc_70 ?_
          refine al_Mold (pc := 160)  hG dX9_again_160 (ix_lit (j := 70) (by decide)) ?_
          refine pf_X9_people (pc := 161)  hG dX9_again_161 tw_1173 ?_
          refine r_aload_n (pc := 164) hG dX9_again_164 rfl ?_
          refine r_aload_n (pc := 165) hG dX9_again_165 rfl ?_
          refine r_bipush (pc := 166) hG dX9_again_166 bc_71 ?_
          refine al_Mold (pc := 168)  hG dX9_again_168 (ix_lit (j := 71) (by decide)) ?_
          refine pf_X9_seed (pc := 169)  hG dX9_again_169 tw_1179 ?_
          exact hret _ _ _ dX9_again_172 (Eq.symm (by unfold sp_X9_againO; exact rfl))
        · have hl109 : i < 3 := by have := mt (le_nI (k := 3) (i := i) (Nat.le_of_ble_eq_true rfl) (by omega)).mpr c2; omega
          refine r_aload_n (pc := 114) hG dX9_again_114 rfl ?_
          refine gf_X9_ways (pc := 115)  hG dX9_again_115 tw_1167 ?_
          refine r_iload_n (pc := 118) hG dX9_again_118 rfl ?_
          refine r_aload_n (pc := 119) hG dX9_again_119 rfl ?_
          refine r_bipush (pc := 120) hG dX9_again_120 bc_64 ?_
          refine r_iload_n (pc := 122) hG dX9_again_122 rfl ?_
          refine r_iadd (pc := 123) hG dX9_again_123 ?_
          refine al_Mold (pc := 124)  hG dX9_again_124 (ix_bd (add_ix (a := 64) (n := 3) (by omega) (by decide) (by decide))) ?_
          refine as_Mways (pc := 125)  hG dX9_again_125 (ix_nI (by omega) (Nat.le_of_ble_eq_true rfl)) ?_
          refine r_iinc (pc := 126) (v := nI (i + 1)) (ls' := [_, _, _]) hG dX9_again_126 rfl (nI_1 _) rfl rfl ?_
          refine r_goto (pc := 129) (tgt := 109) hG dX9_again_129 (by decide) ?_
          have eN109 : u1 b109 5 3 i (b109.2.1 35 (tn (64 + (nI i)))) = st_X9_againO_109 M i (itN i (st_X9_againO_109 M) (itN 8 (st_X9_againO_2 M) M)) := by rw [← hg109]; unfold st_X9_againO_109; exact Eq.symm rfl
          refine J.wk (ls' := [some (rf K 140), some (rf K 155), some (.int (nI (i + 1)))]) ?_ (Eq.refl 3) (wk_s rfl (wk_s rfl (wk_s rfl wk_0)))
          exact ih109 hl109 (u1 b109 5 3 i (b109.2.1 35 (tn (64 + (nI i))))) eN109
      exact (lp109 0 (Nat.zero_le _) _ rfl).wk (Eq.refl 3) (wk_s rfl (wk_s rfl (wk_s rfl wk_0)))
    · have hl2 : i < 8 := by have := mt (le_nI (k := 8) (i := i) (Nat.le_of_ble_eq_true rfl) (by omega)).mpr c1; omega
      refine r_aload_n (pc := 8) hG dX9_again_8 rfl ?_
      refine gf_X9_at (pc := 9)  hG dX9_again_9 tw_1170 ?_
      refine r_iload_n (pc := 12) hG dX9_again_12 rfl ?_
      refine r_aload_n (pc := 13) hG dX9_again_13 rfl ?_
      refine r_iload_n (pc := 14) hG dX9_again_14 rfl ?_
      refine al_Mold (pc := 15)  hG dX9_again_15 (ix_nI (by omega) (Nat.le_of_ble_eq_true rfl)) ?_
      refine as_Mat (pc := 16)  hG dX9_again_16 (ix_nI (by omega) (Nat.le_of_ble_eq_true rfl)) ?_
      refine r_aload_n (pc := 17) hG dX9_again_17 rfl ?_
      refine gf_X9_floor (pc := 18)  hG dX9_again_18 tw_1171 ?_
      refine r_iload_n (pc := 21) hG dX9_again_21 rfl ?_
      refine r_aload_n (pc := 22) hG dX9_again_22 rfl ?_
      refine r_bipush (pc := 23) hG dX9_again_23 bc_8 ?_
      refine r_iload_n (pc := 25) hG dX9_again_25 rfl ?_
      refine r_iadd (pc := 26) hG dX9_again_26 ?_
      refine al_Mold (pc := 27)  hG dX9_again_27 (ix_bd (add_ix (a := 8) (n := 8) (by omega) (by decide) (by decide))) ?_
      refine as_Mfloor (pc := 28)  hG dX9_again_28 (ix_nI (by omega) (Nat.le_of_ble_eq_true rfl)) ?_
      refine r_aload_n (pc := 29) hG dX9_again_29 rfl ?_
      refine gf_X9_thorns (pc := 30)  hG dX9_again_30 tw_1172 ?_
      refine r_iload_n (pc := 33) hG dX9_again_33 rfl ?_
      refine r_aload_n (pc := 34) hG dX9_again_34 rfl ?_
      refine r_bipush (pc := 35) hG dX9_again_35 bc_16 ?_
      refine r_iload_n (pc := 37) hG dX9_again_37 rfl ?_
      refine r_iadd (pc := 38) hG dX9_again_38 ?_
      refine al_Mold (pc := 39)  hG dX9_again_39 (ix_bd (add_ix (a := 16) (n := 8) (by omega) (by decide) (by decide))) ?_
      refine as_Mthorns (pc := 40)  hG dX9_again_40 (ix_nI (by omega) (Nat.le_of_ble_eq_true rfl)) ?_
      refine r_aload_n (pc := 41) hG dX9_again_41 rfl ?_
      refine gf_X9_kind (pc := 42)  hG dX9_again_42 tw_1174 ?_
      refine r_iload_n (pc := 45) hG dX9_again_45 rfl ?_
      refine r_aload_n (pc := 46) hG dX9_again_46 rfl ?_
      refine r_bipush (pc := 47) hG dX9_again_47 bc_24 ?_
      refine r_iload_n (pc := 49) hG dX9_again_49 rfl ?_
      refine r_iadd (pc := 50) hG dX9_again_50 ?_
      refine al_Mold (pc := 51)  hG dX9_again_51 (ix_bd (add_ix (a := 24) (n := 8) (by omega) (by decide) (by decide))) ?_
      refine as_Mkind (pc := 52)  hG dX9_again_52 (ix_nI (by omega) (Nat.le_of_ble_eq_true rfl)) ?_
      refine r_aload_n (pc := 53) hG dX9_again_53 rfl ?_
      refine gf_X9_own (pc := 54)  hG dX9_again_54 tw_1175 ?_
      refine r_iload_n (pc := 57) hG dX9_again_57 rfl ?_
      refine r_aload_n (pc := 58) hG dX9_again_58 rfl ?_
      refine r_bipush (pc := 59) hG dX9_again_59 bc_32 ?_
      refine r_iload_n (pc := 61) hG dX9_again_61 rfl ?_
      refine r_iadd (pc := 62) hG dX9_again_62 ?_
      refine al_Mold (pc := 63)  hG dX9_again_63 (ix_bd (add_ix (a := 32) (n := 8) (by omega) (by decide) (by decide))) ?_
      refine as_Mown (pc := 64)  hG dX9_again_64 (ix_nI (by omega) (Nat.le_of_ble_eq_true rfl)) ?_
      refine r_aload_n (pc := 65) hG dX9_again_65 rfl ?_
      refine gf_X9_place (pc := 66)  hG dX9_again_66 tw_1176 ?_
      refine r_iload_n (pc := 69) hG dX9_again_69 rfl ?_
      refine r_aload_n (pc := 70) hG dX9_again_70 rfl ?_
      refine r_bipush (pc := 71) hG dX9_again_71 bc_40 ?_
      refine r_iload_n (pc := 73) hG dX9_again_73 rfl ?_
      refine r_iadd (pc := 74) hG dX9_again_74 ?_
      refine al_Mold (pc := 75)  hG dX9_again_75 (ix_bd (add_ix (a := 40) (n := 8) (by omega) (by decide) (by decide))) ?_
      refine as_Mplace (pc := 76)  hG dX9_again_76 (ix_nI (by omega) (Nat.le_of_ble_eq_true rfl)) ?_
      refine r_aload_n (pc := 77) hG dX9_again_77 rfl ?_
      refine gf_X9_rose (pc := 78)  hG dX9_again_78 tw_1177 ?_
      refine r_iload_n (pc := 81) hG dX9_again_81 rfl ?_
      refine r_aload_n (pc := 82) hG dX9_again_82 rfl ?_
      refine r_bipush (pc := 83) hG dX9_again_83 bc_48 ?_
      refine r_iload_n (pc := 85) hG dX9_again_85 rfl ?_
      refine r_iadd (pc := 86) hG dX9_again_86 ?_
      refine al_Mold (pc := 87)  hG dX9_again_87 (ix_bd (add_ix (a := 48) (n := 8) (by omega) (by decide) (by decide))) ?_
      refine as_Mrose (pc := 88)  hG dX9_again_88 (ix_nI (by omega) (Nat.le_of_ble_eq_true rfl)) ?_
      refine r_aload_n (pc := 89) hG dX9_again_89 rfl ?_
      refine gf_X9_due (pc := 90)  hG dX9_again_90 tw_1178 ?_
      refine r_iload_n (pc := 93) hG dX9_again_93 rfl ?_
      refine r_aload_n (pc := 94) hG dX9_again_94 rfl ?_
      refine r_bipush (pc := 95) hG dX9_again_95 bc_56 ?_
      refine r_iload_n (pc := 97) hG dX9_again_97 rfl ?_
      refine r_iadd (pc := 98) hG dX9_again_98 ?_
      refine al_Mold (pc := 99)  hG dX9_again_99 (ix_bd (add_ix (a := 56) (n := 8) (by omega) (by decide) (by decide))) ?_
      refine as_Mdue (pc := 100)  hG dX9_again_100 (ix_nI (by omega) (Nat.le_of_ble_eq_true rfl)) ?_
      refine r_iinc (pc := 101) (v := nI (i + 1)) (ls' := [_, _, _]) hG dX9_again_101 rfl (nI_1 _) rfl rfl ?_
      refine r_goto (pc := 104) (tgt := 2) hG dX9_again_104 (by decide) ?_
      have eN2 : u1 (u1 (u1 (u1 (u1 (u1 (u1 (u1 b2 5 6 i (b2.2.1 35 i)) 5 7 i (b2.2.1 35 (tn (8 + (nI i))))) 5 8 i (b2.2.1 35 (tn (16 + (nI i))))) 5 9 i (b2.2.1 35 (tn (24 + (nI i))))) 5 10 i (b2.2.1 35 (tn (32 + (nI i))))) 5 11 i (b2.2.1 35 (tn (40 + (nI i))))) 5 12 i (b2.2.1 35 (tn (48 + (nI i))))) 5 13 i (b2.2.1 35 (tn (56 + (nI i)))) = st_X9_againO_2 M i (itN i (st_X9_againO_2 M) M) := by rw [← hg2]; unfold st_X9_againO_2; exact Eq.symm rfl
      refine J.wk (ls' := [some (rf K 140), some (rf K 155), some (.int (nI (i + 1)))]) ?_ (Eq.refl 3) (wk_s rfl (wk_s rfl (wk_s rfl wk_0)))
      exact ih2 hl2 (u1 (u1 (u1 (u1 (u1 (u1 (u1 (u1 b2 5 6 i (b2.2.1 35 i)) 5 7 i (b2.2.1 35 (tn (8 + (nI i))))) 5 8 i (b2.2.1 35 (tn (16 + (nI i))))) 5 9 i (b2.2.1 35 (tn (24 + (nI i))))) 5 10 i (b2.2.1 35 (tn (32 + (nI i))))) 5 11 i (b2.2.1 35 (tn (40 + (nI i))))) 5 12 i (b2.2.1 35 (tn (48 + (nI i))))) 5 13 i (b2.2.1 35 (tn (56 + (nI i))))) eN2
  exact (lp2 0 (Nat.zero_le _) _ rfl).wk (Eq.refl 3) (wk_s rfl (wk_s rfl (wk_s rfl wk_0)))

def st_X9_keepB_109 (M : MT) (i : Nat) (b109 : MT) : MT :=
  u2 b109 36 (tn (64 + (nI i))) (b109.1 5 3 i)
def st_X9_keepB_2 (M : MT) (i : Nat) (b2 : MT) : MT :=
  u2 (u2 (u2 (u2 (u2 (u2 (u2 (u2 b2 36 i (b2.1 5 6 i)) 36 (tn (8 + (nI i))) (b2.1 5 7 i)) 36 (tn (16 + (nI i))) (b2.1 5 8 i)) 36 (tn (24 + (nI i))) (b2.1 5 9 i)) 36 (tn (32 + (nI i))) (b2.1 5 10 i)) 36 (tn (40 + (nI i))) (b2.1 5 11 i)) 36 (tn (48 + (nI i))) (b2.1 5 12 i)) 36 (tn (56 + (nI i))) (b2.1 5 13 i)
def sp_X9_keepB (M : MT) : MT :=
  (u2 (u2 (u2 (u2 (u2 (itN 3 (st_X9_keepB_109 M) (itN 8 (st_X9_keepB_2 M) M)) 36 67 ((itN 3 (st_X9_keepB_109 M) (itN 8 (st_X9_keepB_2 M) M)).1 5 2 0)) 36 68 ((itN 3 (st_X9_keepB_109 M) (itN 8 (st_X9_keepB_2 M) M)).1 5 4 0)) 36 69 ((itN 3 (st_X9_keepB_109 M) (itN 8 (st_X9_keepB_2 M) M)).1 5 0 0)) 36 70 ((itN 3 (st_X9_keepB_109 M) (itN 8 (st_X9_keepB_2 M) M)).1 5 1 0)) 36 71 ((itN 3 (st_X9_keepB_109 M) (itN 8 (st_X9_keepB_2 M) M)).1 5 5 0))
set_option maxRecDepth 20000 in
theorem c_X9_keepB {K : KT} {M : MT}    : CM K 1 yX9_keep cX9_keep 3 none [rf K 140, rf K 156] M none (sp_X9_keepB M) := by
  refine CM.ofV (by decide) [some (rf K 140), some (rf K 156), none] rfl (Nat.le_of_ble_eq_true rfl) (Nat.le_of_ble_eq_true rfl) (fun G hG _ hret => ?_)
  refine r_iconst (pc := 0) hG dX9_keep_0 ic_0 ?_
  refine r_istore_n (pc := 1) (ls' := [_, _, _]) hG dX9_keep_1 rfl rfl ?_
  have lp2 : ∀ i, i ≤ 8 → ∀ b2 : MT, b2 = itN i (st_X9_keepB_2 M) M → J G K b2 2 [some (rf K 140), some (rf K 156), some (.int (nI i))] [] := by
    refine up_ind 8 (fun i hi2 ih2 => ?_)
    intro b2 hg2
    refine r_iload_n (pc := 2) hG dX9_keep_2 rfl ?_
    refine r_bipush (pc := 3) hG dX9_keep_3 bc_8 ?_
    refine r_icmp_ge (pc := 5) (tgt := 107) hG dX9_keep_5 (by decide) (fun c1 => ?_) (fun c1 => ?_)
    · have e2 : i = 8 := by have := (le_nI (k := 8) (i := i) (Nat.le_of_ble_eq_true rfl) (by omega)).mp c1; omega
      subst hg2
      subst e2
      refine r_iconst (pc := 107) hG dX9_keep_107 ic_0 ?_
      refine r_istore_n (pc := 108) (ls' := [_, _, _]) hG dX9_keep_108 rfl rfl ?_
      have lp109 : ∀ i, i ≤ 3 → ∀ b109 : MT, b109 = itN i (st_X9_keepB_109 M) (itN 8 (st_X9_keepB_2 M) M) → J G K b109 109 [some (rf K 140), some (rf K 156), some (.int (nI i))] [] := by
        refine up_ind 3 (fun i hi109 ih109 => ?_)
        intro b109 hg109
        refine r_iload_n (pc := 109) hG dX9_keep_109 rfl ?_
        refine r_iconst (pc := 110) hG dX9_keep_110 ic_3 ?_
        refine r_icmp_ge (pc := 111) (tgt := 132) hG dX9_keep_111 (by decide) (fun c2 => ?_) (fun c2 => ?_)
        · have e109 : i = 3 := by have := (le_nI (k := 3) (i := i) (Nat.le_of_ble_eq_true rfl) (by omega)).mp c2; omega
          subst hg109
          subst e109
          refine r_aload_n (pc := 132) hG dX9_keep_132 rfl ?_
          refine r_bipush (pc := 133) hG dX9_keep_133 bc_67 ?_
          refine r_aload_n (pc := 135) hG dX9_keep_135 rfl ?_
          refine gf_X9_n (pc := 136)  hG dX9_keep_136 tw_1166 ?_
          refine as_Mbefore (pc := 139)  hG dX9_keep_139 (ix_lit (j := 67) (by decide)) ?_
          refine r_aload_n (pc := 140) hG dX9_keep_140 rfl ?_
          refine r_bipush (pc := 141) hG dX9_keep_141 bc_68 ?_
          refine r_aload_n (pc := 143) hG dX9_keep_143 rfl ?_
          refine gf_X9_said (pc := 144)  hG dX9_keep_144 tw_1168 ?_
          refine as_Mbefore (pc := 147)  hG dX9_keep_147 (ix_lit (j := 68) (by decide)) ?_
          refine r_aload_n (pc := 148) hG dX9_keep_148 rfl ?_
          refine r_bipush (pc := 149) hG dX9_keep_149 bc_69 ?_
          refine r_aload_n (pc := 151) hG dX9_keep_151 rfl ?_
          refine gf_X9_windows (pc := 152)  hG dX9_keep_152 tw_1169 ?_
          refine as_Mbefore (pc := 155)  hG dX9_keep_155 (ix_lit (j := 69) (by decide)) ?_
          refine r_aload_n (pc := 156) hG dX9_keep_156 rfl ?_
          refine r_bipush (pc := 157) hG dX9_keep_157 bc_70 ?_
          refine r_aload_n (pc := 159) hG dX9_keep_159 rfl ?_
          refine gf_X9_people (pc := 160)  hG dX9_keep_160 tw_1173 ?_
          refine as_Mbefore (pc := 163)  hG dX9_keep_163 (ix_lit (j := 70) (by decide)) ?_
          refine r_aload_n (pc := 164) hG dX9_keep_164 rfl ?_
          refine r_bipush (pc := 165) hG dX9_keep_165 bc_71 ?_
          refine r_aload_n (pc := 167) hG dX9_keep_167 rfl ?_
          refine gf_X9_seed (pc := 168)  hG dX9_keep_168 tw_1179 ?_
          refine as_Mbefore (pc := 171)  hG dX9_keep_171 (ix_lit (j := 71) (by decide)) ?_
          exact hret _ _ _ dX9_keep_172 (Eq.symm (by unfold sp_X9_keepB; exact rfl))
        · have hl109 : i < 3 := by have := mt (le_nI (k := 3) (i := i) (Nat.le_of_ble_eq_true rfl) (by omega)).mpr c2; omega
          refine r_aload_n (pc := 114) hG dX9_keep_114 rfl ?_
          refine r_bipush (pc := 115) hG dX9_keep_115 bc_64 ?_
          refine r_iload_n (pc := 117) hG dX9_keep_117 rfl ?_
          refine r_iadd (pc := 118) hG dX9_keep_118 ?_
          refine r_aload_n (pc := 119) hG dX9_keep_119 rfl ?_
          refine gf_X9_ways (pc := 120)  hG dX9_keep_120 tw_1167 ?_
          refine r_iload_n (pc := 123) hG dX9_keep_123 rfl ?_
          refine al_Mways (pc := 124)  hG dX9_keep_124 (ix_nI (by omega) (Nat.le_of_ble_eq_true rfl)) ?_
          refine as_Mbefore (pc := 125)  hG dX9_keep_125 (ix_bd (add_ix (a := 64) (n := 3) (by omega) (by decide) (by decide))) ?_
          refine r_iinc (pc := 126) (v := nI (i + 1)) (ls' := [_, _, _]) hG dX9_keep_126 rfl (nI_1 _) rfl rfl ?_
          refine r_goto (pc := 129) (tgt := 109) hG dX9_keep_129 (by decide) ?_
          have eN109 : u2 b109 36 (tn (64 + (nI i))) (b109.1 5 3 i) = st_X9_keepB_109 M i (itN i (st_X9_keepB_109 M) (itN 8 (st_X9_keepB_2 M) M)) := by rw [← hg109]; unfold st_X9_keepB_109; exact Eq.symm rfl
          refine J.wk (ls' := [some (rf K 140), some (rf K 156), some (.int (nI (i + 1)))]) ?_ (Eq.refl 3) (wk_s rfl (wk_s rfl (wk_s rfl wk_0)))
          exact ih109 hl109 (u2 b109 36 (tn (64 + (nI i))) (b109.1 5 3 i)) eN109
      exact (lp109 0 (Nat.zero_le _) _ rfl).wk (Eq.refl 3) (wk_s rfl (wk_s rfl (wk_s rfl wk_0)))
    · have hl2 : i < 8 := by have := mt (le_nI (k := 8) (i := i) (Nat.le_of_ble_eq_true rfl) (by omega)).mpr c1; omega
      refine r_aload_n (pc := 8) hG dX9_keep_8 rfl ?_
      refine r_iload_n (pc := 9) hG dX9_keep_9 rfl ?_
      refine r_aload_n (pc := 10) hG dX9_keep_10 rfl ?_
      refine gf_X9_at (pc := 11)  hG dX9_keep_11 tw_1170 ?_
      refine r_iload_n (pc := 14) hG dX9_keep_14 rfl ?_
      refine al_Mat (pc := 15)  hG dX9_keep_15 (ix_nI (by omega) (Nat.le_of_ble_eq_true rfl)) ?_
      refine as_Mbefore (pc := 16)  hG dX9_keep_16 (ix_nI (by omega) (Nat.le_of_ble_eq_true rfl)) ?_
      refine r_aload_n (pc := 17) hG dX9_keep_17 rfl ?_
      refine r_bipush (pc := 18) hG dX9_keep_18 bc_8 ?_
      refine r_iload_n (pc := 20) hG dX9_keep_20 rfl ?_
      refine r_iadd (pc := 21) hG dX9_keep_21 ?_
      refine r_aload_n (pc := 22) hG dX9_keep_22 rfl ?_
      refine gf_X9_floor (pc := 23)  hG dX9_keep_23 tw_1171 ?_
      refine r_iload_n (pc := 26) hG dX9_keep_26 rfl ?_
      refine al_Mfloor (pc := 27)  hG dX9_keep_27 (ix_nI (by omega) (Nat.le_of_ble_eq_true rfl)) ?_
      refine as_Mbefore (pc := 28)  hG dX9_keep_28 (ix_bd (add_ix (a := 8) (n := 8) (by omega) (by decide) (by decide))) ?_
      refine r_aload_n (pc := 29) hG dX9_keep_29 rfl ?_
      refine r_bipush (pc := 30) hG dX9_keep_30 bc_16 ?_
      refine r_iload_n (pc := 32) hG dX9_keep_32 rfl ?_
      refine r_iadd (pc := 33) hG dX9_keep_33 ?_
      refine r_aload_n (pc := 34) hG dX9_keep_34 rfl ?_
      refine gf_X9_thorns (pc := 35)  hG dX9_keep_35 tw_1172 ?_
      refine r_iload_n (pc := 38) hG dX9_keep_38 rfl ?_
      refine al_Mthorns (pc := 39)  hG dX9_keep_39 (ix_nI (by omega) (Nat.le_of_ble_eq_true rfl)) ?_
      refine as_Mbefore (pc := 40)  hG dX9_keep_40 (ix_bd (add_ix (a := 16) (n := 8) (by omega) (by decide) (by decide))) ?_
      refine r_aload_n (pc := 41) hG dX9_keep_41 rfl ?_
      refine r_bipush (pc := 42) hG dX9_keep_42 bc_24 ?_
      refine r_iload_n (pc := 44) hG dX9_keep_44 rfl ?_
      refine r_iadd (pc := 45) hG dX9_keep_45 ?_
      refine r_aload_n (pc := 46) hG dX9_keep_46 rfl ?_
      refine gf_X9_kind (pc := 47)  hG dX9_keep_47 tw_1174 ?_
      refine r_iload_n (pc := 50) hG dX9_keep_50 rfl ?_
      refine al_Mkind (pc := 51)  hG dX9_keep_51 (ix_nI (by omega) (Nat.le_of_ble_eq_true rfl)) ?_
      refine as_Mbefore (pc := 52)  hG dX9_keep_52 (ix_bd (add_ix (a := 24) (n := 8) (by omega) (by decide) (by decide))) ?_
      refine r_aload_n (pc := 53) hG dX9_keep_53 rfl ?_
      refine r_bipush (pc := 54) hG dX9_keep_54 bc_32 ?_
      refine r_iload_n (pc := 56) hG dX9_keep_56 rfl ?_
      refine r_iadd (pc := 57) hG dX9_keep_57 ?_
      refine r_aload_n (pc := 58) hG dX9_keep_58 rfl ?_
      refine gf_X9_own (pc := 59)  hG dX9_keep_59 tw_1175 ?_
      refine r_iload_n (pc := 62) hG dX9_keep_62 rfl ?_
      refine al_Mown (pc := 63)  hG dX9_keep_63 (ix_nI (by omega) (Nat.le_of_ble_eq_true rfl)) ?_
      refine as_Mbefore (pc := 64)  hG dX9_keep_64 (ix_bd (add_ix (a := 32) (n := 8) (by omega) (by decide) (by decide))) ?_
      refine r_aload_n (pc := 65) hG dX9_keep_65 rfl ?_
      refine r_bipush (pc := 66) hG dX9_keep_66 bc_40 ?_
      refine r_iload_n (pc := 68) hG dX9_keep_68 rfl ?_
      refine r_iadd (pc := 69) hG dX9_keep_69 ?_
      refine r_aload_n (pc := 70) hG dX9_keep_70 rfl ?_
      refine gf_X9_place (pc := 71)  hG dX9_keep_71 tw_1176 ?_
      refine r_iload_n (pc := 74) hG dX9_keep_74 rfl ?_
      refine al_Mplace (pc := 75)  hG dX9_keep_75 (ix_nI (by omega) (Nat.le_of_ble_eq_true rfl)) ?_
      refine as_Mbefore (pc := 76)  hG dX9_keep_76 (ix_bd (add_ix (a := 40) (n := 8) (by omega) (by decide) (by decide))) ?_
      refine r_aload_n (pc := 77) hG dX9_keep_77 rfl ?_
      refine r_bipush (pc := 78) hG dX9_keep_78 bc_48 ?_
      refine r_iload_n (pc := 80) hG dX9_keep_80 rfl ?_
      refine r_iadd (pc := 81) hG dX9_keep_81 ?_
      refine r_aload_n (pc := 82) hG dX9_keep_82 rfl ?_
      refine gf_X9_rose (pc := 83)  hG dX9_keep_83 tw_1177 ?_
      refine r_iload_n (pc := 86) hG dX9_keep_86 rfl ?_
      refine al_Mrose (pc := 87)  hG dX9_keep_87 (ix_nI (by omega) (Nat.le_of_ble_eq_true rfl)) ?_
      refine as_Mbefore (pc := 88)  hG dX9_keep_88 (ix_bd (add_ix (a := 48) (n := 8) (by omega) (by decide) (by decide))) ?_
      refine r_aload_n (pc := 89) hG dX9_keep_89 rfl ?_
      refine r_bipush (pc := 90) hG dX9_keep_90 bc_56 ?_
      refine r_iload_n (pc := 92) hG dX9_keep_92 rfl ?_
      refine r_iadd (pc := 93) hG dX9_keep_93 ?_
      refine r_aload_n (pc := 94) hG dX9_keep_94 rfl ?_
      refine gf_X9_due (pc := 95)  hG dX9_keep_95 tw_1178 ?_
      refine r_iload_n (pc := 98) hG dX9_keep_98 rfl ?_
      refine al_Mdue (pc := 99)  hG dX9_keep_99 (ix_nI (by omega) (Nat.le_of_ble_eq_true rfl)) ?_
      refine as_Mbefore (pc := 100)  hG dX9_keep_100 (ix_bd (add_ix (a := 56) (n := 8) (by omega) (by decide) (by decide))) ?_
      refine r_iinc (pc := 101) (v := nI (i + 1)) (ls' := [_, _, _]) hG dX9_keep_101 rfl (nI_1 _) rfl rfl ?_
      refine r_goto (pc := 104) (tgt := 2) hG dX9_keep_104 (by decide) ?_
      have eN2 : u2 (u2 (u2 (u2 (u2 (u2 (u2 (u2 b2 36 i (b2.1 5 6 i)) 36 (tn (8 + (nI i))) (b2.1 5 7 i)) 36 (tn (16 + (nI i))) (b2.1 5 8 i)) 36 (tn (24 + (nI i))) (b2.1 5 9 i)) 36 (tn (32 + (nI i))) (b2.1 5 10 i)) 36 (tn (40 + (nI i))) (b2.1 5 11 i)) 36 (tn (48 + (nI i))) (b2.1 5 12 i)) 36 (tn (56 + (nI i))) (b2.1 5 13 i) = st_X9_keepB_2 M i (itN i (st_X9_keepB_2 M) M) := by rw [← hg2]; unfold st_X9_keepB_2; exact Eq.symm rfl
      refine J.wk (ls' := [some (rf K 140), some (rf K 156), some (.int (nI (i + 1)))]) ?_ (Eq.refl 3) (wk_s rfl (wk_s rfl (wk_s rfl wk_0)))
      exact ih2 hl2 (u2 (u2 (u2 (u2 (u2 (u2 (u2 (u2 b2 36 i (b2.1 5 6 i)) 36 (tn (8 + (nI i))) (b2.1 5 7 i)) 36 (tn (16 + (nI i))) (b2.1 5 8 i)) 36 (tn (24 + (nI i))) (b2.1 5 9 i)) 36 (tn (32 + (nI i))) (b2.1 5 10 i)) 36 (tn (40 + (nI i))) (b2.1 5 11 i)) 36 (tn (48 + (nI i))) (b2.1 5 12 i)) 36 (tn (56 + (nI i))) (b2.1 5 13 i)) eN2
  exact (lp2 0 (Nat.zero_le _) _ rfl).wk (Eq.refl 3) (wk_s rfl (wk_s rfl (wk_s rfl wk_0)))

def st_X9_againB_109 (M : MT) (i : Nat) (b109 : MT) : MT :=
  u1 b109 5 3 i (b109.2.1 36 (tn (64 + (nI i))))
def st_X9_againB_2 (M : MT) (i : Nat) (b2 : MT) : MT :=
  u1 (u1 (u1 (u1 (u1 (u1 (u1 (u1 b2 5 6 i (b2.2.1 36 i)) 5 7 i (b2.2.1 36 (tn (8 + (nI i))))) 5 8 i (b2.2.1 36 (tn (16 + (nI i))))) 5 9 i (b2.2.1 36 (tn (24 + (nI i))))) 5 10 i (b2.2.1 36 (tn (32 + (nI i))))) 5 11 i (b2.2.1 36 (tn (40 + (nI i))))) 5 12 i (b2.2.1 36 (tn (48 + (nI i))))) 5 13 i (b2.2.1 36 (tn (56 + (nI i))))
def sp_X9_againB (M : MT) : MT :=
  (u1 (u1 (u1 (u1 (u1 (itN 3 (st_X9_againB_109 M) (itN 8 (st_X9_againB_2 M) M)) 5 2 0 ((itN 3 (st_X9_againB_109 M) (itN 8 (st_X9_againB_2 M) M)).2.1 36 67)) 5 4 0 ((itN 3 (st_X9_againB_109 M) (itN 8 (st_X9_againB_2 M) M)).2.1 36 68)) 5 0 0 ((itN 3 (st_X9_againB_109 M) (itN 8 (st_X9_againB_2 M) M)).2.1 36 69)) 5 1 0 ((itN 3 (st_X9_againB_109 M) (itN 8 (st_X9_againB_2 M) M)).2.1 36 70)) 5 5 0 ((itN 3 (st_X9_againB_109 M) (itN 8 (st_X9_againB_2 M) M)).2.1 36 71))
set_option maxRecDepth 20000 in
theorem c_X9_againB {K : KT} {M : MT}    : CM K 1 yX9_again cX9_again 3 none [rf K 140, rf K 156] M none (sp_X9_againB M) := by
  refine CM.ofV (by decide) [some (rf K 140), some (rf K 156), none] rfl (Nat.le_of_ble_eq_true rfl) (Nat.le_of_ble_eq_true rfl) (fun G hG _ hret => ?_)
  refine r_iconst (pc := 0) hG dX9_again_0 ic_0 ?_
  refine r_istore_n (pc := 1) (ls' := [_, _, _]) hG dX9_again_1 rfl rfl ?_
  have lp2 : ∀ i, i ≤ 8 → ∀ b2 : MT, b2 = itN i (st_X9_againB_2 M) M → J G K b2 2 [some (rf K 140), some (rf K 156), some (.int (nI i))] [] := by
    refine up_ind 8 (fun i hi2 ih2 => ?_)
    intro b2 hg2
    refine r_iload_n (pc := 2) hG dX9_again_2 rfl ?_
    refine r_bipush (pc := 3) hG dX9_again_3 bc_8 ?_
    refine r_icmp_ge (pc := 5) (tgt := 107) hG dX9_again_5 (by decide) (fun c1 => ?_) (fun c1 => ?_)
    · have e2 : i = 8 := by have := (le_nI (k := 8) (i := i) (Nat.le_of_ble_eq_true rfl) (by omega)).mp c1; omega
      subst hg2
      subst e2
      refine r_iconst (pc := 107) hG dX9_again_107 ic_0 ?_
      refine r_istore_n (pc := 108) (ls' := [_, _, _]) hG dX9_again_108 rfl rfl ?_
      have lp109 : ∀ i, i ≤ 3 → ∀ b109 : MT, b109 = itN i (st_X9_againB_109 M) (itN 8 (st_X9_againB_2 M) M) → J G K b109 109 [some (rf K 140), some (rf K 156), some (.int (nI i))] [] := by
        refine up_ind 3 (fun i hi109 ih109 => ?_)
        intro b109 hg109
        refine r_iload_n (pc := 109) hG dX9_again_109 rfl ?_
        refine r_iconst (pc := 110) hG dX9_again_110 ic_3 ?_
        refine r_icmp_ge (pc := 111) (tgt := 132) hG dX9_again_111 (by decide) (fun c2 => ?_) (fun c2 => ?_)
        · have e109 : i = 3 := by have := (le_nI (k := 3) (i := i) (Nat.le_of_ble_eq_true rfl) (by omega)).mp c2; omega
          subst hg109
          subst e109
          refine r_aload_n (pc := 132) hG dX9_again_132 rfl ?_
          refine r_aload_n (pc := 133) hG dX9_again_133 rfl ?_
          refine r_bipush (pc := 134) hG dX9_again_134 bc_67 ?_
          refine al_Mbefore (pc := 136)  hG dX9_again_136 (ix_lit (j := 67) (by decide)) ?_
          refine pf_X9_n (pc := 137)  hG dX9_again_137 tw_1166 ?_
          refine r_aload_n (pc := 140) hG dX9_again_140 rfl ?_
          refine r_aload_n (pc := 141) hG dX9_again_141 rfl ?_
          refine r_bipush (pc := 142) hG dX9_again_142 bc_68 ?_
          refine al_Mbefore (pc := 144)  hG dX9_again_144 (ix_lit (j := 68) (by decide)) ?_
          refine pf_X9_said (pc := 145)  hG dX9_again_145 tw_1168 ?_
          refine r_aload_n (pc := 148) hG dX9_again_148 rfl ?_
          refine r_aload_n (pc := 149) hG dX9_again_149 rfl ?_
          refine r_bipush (pc := 150) hG dX9_again_150 bc_69 ?_
          refine al_Mbefore (pc := 152)  hG dX9_again_152 (ix_lit (j := 69) (by decide)) ?_
          refine pf_X9_windows (pc := 153)  hG dX9_again_153 tw_1169 ?_
          refine r_aload_n (pc := 156) hG dX9_again_156 rfl ?_
          refine r_aload_n (pc := 157) hG dX9_again_157 rfl ?_
          refine r_bipush (pc := 158) hG dX9_again_158 bc_70 ?_
          refine al_Mbefore (pc := 160)  hG dX9_again_160 (ix_lit (j := 70) (by decide)) ?_
          refine pf_X9_people (pc := 161)  hG dX9_again_161 tw_1173 ?_
          refine r_aload_n (pc := 164) hG dX9_again_164 rfl ?_
          refine r_aload_n (pc := 165) hG dX9_again_165 rfl ?_
          refine r_bipush (pc := 166) hG dX9_again_166 bc_71 ?_
          refine al_Mbefore (pc := 168)  hG dX9_again_168 (ix_lit (j := 71) (by decide)) ?_
          refine pf_X9_seed (pc := 169)  hG dX9_again_169 tw_1179 ?_
          exact hret _ _ _ dX9_again_172 (Eq.symm (by unfold sp_X9_againB; exact rfl))
        · have hl109 : i < 3 := by have := mt (le_nI (k := 3) (i := i) (Nat.le_of_ble_eq_true rfl) (by omega)).mpr c2; omega
          refine r_aload_n (pc := 114) hG dX9_again_114 rfl ?_
          refine gf_X9_ways (pc := 115)  hG dX9_again_115 tw_1167 ?_
          refine r_iload_n (pc := 118) hG dX9_again_118 rfl ?_
          refine r_aload_n (pc := 119) hG dX9_again_119 rfl ?_
          refine r_bipush (pc := 120) hG dX9_again_120 bc_64 ?_
          refine r_iload_n (pc := 122) hG dX9_again_122 rfl ?_
          refine r_iadd (pc := 123) hG dX9_again_123 ?_
          refine al_Mbefore (pc := 124)  hG dX9_again_124 (ix_bd (add_ix (a := 64) (n := 3) (by omega) (by decide) (by decide))) ?_
          refine as_Mways (pc := 125)  hG dX9_again_125 (ix_nI (by omega) (Nat.le_of_ble_eq_true rfl)) ?_
          refine r_iinc (pc := 126) (v := nI (i + 1)) (ls' := [_, _, _]) hG dX9_again_126 rfl (nI_1 _) rfl rfl ?_
          refine r_goto (pc := 129) (tgt := 109) hG dX9_again_129 (by decide) ?_
          have eN109 : u1 b109 5 3 i (b109.2.1 36 (tn (64 + (nI i)))) = st_X9_againB_109 M i (itN i (st_X9_againB_109 M) (itN 8 (st_X9_againB_2 M) M)) := by rw [← hg109]; unfold st_X9_againB_109; exact Eq.symm rfl
          refine J.wk (ls' := [some (rf K 140), some (rf K 156), some (.int (nI (i + 1)))]) ?_ (Eq.refl 3) (wk_s rfl (wk_s rfl (wk_s rfl wk_0)))
          exact ih109 hl109 (u1 b109 5 3 i (b109.2.1 36 (tn (64 + (nI i))))) eN109
      exact (lp109 0 (Nat.zero_le _) _ rfl).wk (Eq.refl 3) (wk_s rfl (wk_s rfl (wk_s rfl wk_0)))
    · have hl2 : i < 8 := by have := mt (le_nI (k := 8) (i := i) (Nat.le_of_ble_eq_true rfl) (by omega)).mpr c1; omega
      refine r_aload_n (pc := 8) hG dX9_again_8 rfl ?_
      refine gf_X9_at (pc := 9)  hG dX9_again_9 tw_1170 ?_
      refine r_iload_n (pc := 12) hG dX9_again_12 rfl ?_
      refine r_aload_n (pc := 13) hG dX9_again_13 rfl ?_
      refine r_iload_n (pc := 14) hG dX9_again_14 rfl ?_
      refine al_Mbefore (pc := 15)  hG dX9_again_15 (ix_nI (by omega) (Nat.le_of_ble_eq_true rfl)) ?_
      refine as_Mat (pc := 16)  hG dX9_again_16 (ix_nI (by omega) (Nat.le_of_ble_eq_true rfl)) ?_
      refine r_aload_n (pc := 17) hG dX9_again_17 rfl ?_
      refine gf_X9_floor (pc := 18)  hG dX9_again_18 tw_1171 ?_
      refine r_iload_n (pc := 21) hG dX9_again_21 rfl ?_
      refine r_aload_n (pc := 22) hG dX9_again_22 rfl ?_
      refine r_bipush (pc := 23) hG dX9_again_23 bc_8 ?_
      refine r_iload_n (pc := 25) hG dX9_again_25 rfl ?_
      refine r_iadd (pc := 26) hG dX9_again_26 ?_
      refine al_Mbefore (pc := 27)  hG dX9_again_27 (ix_bd (add_ix (a := 8) (n := 8) (by omega) (by decide) (by decide))) ?_
      refine as_Mfloor (pc := 28)  hG dX9_again_28 (ix_nI (by omega) (Nat.le_of_ble_eq_true rfl)) ?_
      refine r_aload_n (pc := 29) hG dX9_again_29 rfl ?_
      refine gf_X9_thorns (pc := 30)  hG dX9_again_30 tw_1172 ?_
      refine r_iload_n (pc := 33) hG dX9_again_33 rfl ?_
      refine r_aload_n (pc := 34) hG dX9_again_34 rfl ?_
      refine r_bipush (pc := 35) hG dX9_again_35 bc_16 ?_
      refine r_iload_n (pc := 37) hG dX9_again_37 rfl ?_
      refine r_iadd (pc := 38) hG dX9_again_38 ?_
      refine al_Mbefore (pc := 39)  hG dX9_again_39 (ix_bd (add_ix (a := 16) (n := 8) (by omega) (by decide) (by decide))) ?_
      refine as_Mthorns (pc := 40)  hG dX9_again_40 (ix_nI (by omega) (Nat.le_of_ble_eq_true rfl)) ?_
      refine r_aload_n (pc := 41) hG dX9_again_41 rfl ?_
      refine gf_X9_kind (pc := 42)  hG dX9_again_42 tw_1174 ?_
      refine r_iload_n (pc := 45) hG dX9_again_45 rfl ?_
      refine r_aload_n (pc := 46) hG dX9_again_46 rfl ?_
      refine r_bipush (pc := 47) hG dX9_again_47 bc_24 ?_
      refine r_iload_n (pc := 49) hG dX9_again_49 rfl ?_
      refine r_iadd (pc := 50) hG dX9_again_50 ?_
      refine al_Mbefore (pc := 51)  hG dX9_again_51 (ix_bd (add_ix (a := 24) (n := 8) (by omega) (by decide) (by decide))) ?_
      refine as_Mkind (pc := 52)  hG dX9_again_52 (ix_nI (by omega) (Nat.le_of_ble_eq_true rfl)) ?_
      refine r_aload_n (pc := 53) hG dX9_again_53 rfl ?_
      refine gf_X9_own (pc := 54)  hG dX9_again_54 tw_1175 ?_
      refine r_iload_n (pc := 57) hG dX9_again_57 rfl ?_
      refine r_aload_n (pc := 58) hG dX9_again_58 rfl ?_
      refine r_bipush (pc := 59) hG dX9_again_59 bc_32 ?_
      refine r_iload_n (pc := 61) hG dX9_again_61 rfl ?_
      refine r_iadd (pc := 62) hG dX9_again_62 ?_
      refine al_Mbefore (pc := 63)  hG dX9_again_63 (ix_bd (add_ix (a := 32) (n := 8) (by omega) (by decide) (by decide))) ?_
      refine as_Mown (pc := 64)  hG dX9_again_64 (ix_nI (by omega) (Nat.le_of_ble_eq_true rfl)) ?_
      refine r_aload_n (pc := 65) hG dX9_again_65 rfl ?_
      refine gf_X9_place (pc := 66)  hG dX9_again_66 tw_1176 ?_
      refine r_iload_n (pc := 69) hG dX9_again_69 rfl ?_
      refine r_aload_n (pc := 70) hG dX9_again_70 rfl ?_
      refine r_bipush (pc := 71) hG dX9_again_71 bc_40 ?_
      refine r_iload_n (pc := 73) hG dX9_again_73 rfl ?_
      refine r_iadd (pc := 74) hG dX9_again_74 ?_
      refine al_Mbefore (pc := 75)  hG dX9_again_75 (ix_bd (add_ix (a := 40) (n := 8) (by omega) (by decide) (by decide))) ?_
      refine as_Mplace (pc := 76)  hG dX9_again_76 (ix_nI (by omega) (Nat.le_of_ble_eq_true rfl)) ?_
      refine r_aload_n (pc := 77) hG dX9_again_77 rfl ?_
      refine gf_X9_rose (pc := 78)  hG dX9_again_78 tw_1177 ?_
      refine r_iload_n (pc := 81) hG dX9_again_81 rfl ?_
      refine r_aload_n (pc := 82) hG dX9_again_82 rfl ?_
      refine r_bipush (pc := 83) hG dX9_again_83 bc_48 ?_
      refine r_iload_n (pc := 85) hG dX9_again_85 rfl ?_
      refine r_iadd (pc := 86) hG dX9_again_86 ?_
      refine al_Mbefore (pc := 87)  hG dX9_again_87 (ix_bd (add_ix (a := 48) (n := 8) (by omega) (by decide) (by decide))) ?_
      refine as_Mrose (pc := 88)  hG dX9_again_88 (ix_nI (by omega) (Nat.le_of_ble_eq_true rfl)) ?_
      refine r_aload_n (pc := 89) hG dX9_again_89 rfl ?_
      refine gf_X9_due (pc := 90)  hG dX9_again_90 tw_1178 ?_
      refine r_iload_n (pc := 93) hG dX9_again_93 rfl ?_
      refine r_aload_n (pc := 94) hG dX9_again_94 rfl ?_
      refine r_bipush (pc := 95) hG dX9_again_95 bc_56 ?_
      refine r_iload_n (pc := 97) hG dX9_again_97 rfl ?_
      refine r_iadd (pc := 98) hG dX9_again_98 ?_
      refine al_Mbefore (pc := 99)  hG dX9_again_99 (ix_bd (add_ix (a := 56) (n := 8) (by omega) (by decide) (by decide))) ?_
      refine as_Mdue (pc := 100)  hG dX9_again_100 (ix_nI (by omega) (Nat.le_of_ble_eq_true rfl)) ?_
      refine r_iinc (pc := 101) (v := nI (i + 1)) (ls' := [_, _, _]) hG dX9_again_101 rfl (nI_1 _) rfl rfl ?_
      refine r_goto (pc := 104) (tgt := 2) hG dX9_again_104 (by decide) ?_
      have eN2 : u1 (u1 (u1 (u1 (u1 (u1 (u1 (u1 b2 5 6 i (b2.2.1 36 i)) 5 7 i (b2.2.1 36 (tn (8 + (nI i))))) 5 8 i (b2.2.1 36 (tn (16 + (nI i))))) 5 9 i (b2.2.1 36 (tn (24 + (nI i))))) 5 10 i (b2.2.1 36 (tn (32 + (nI i))))) 5 11 i (b2.2.1 36 (tn (40 + (nI i))))) 5 12 i (b2.2.1 36 (tn (48 + (nI i))))) 5 13 i (b2.2.1 36 (tn (56 + (nI i)))) = st_X9_againB_2 M i (itN i (st_X9_againB_2 M) M) := by rw [← hg2]; unfold st_X9_againB_2; exact Eq.symm rfl
      refine J.wk (ls' := [some (rf K 140), some (rf K 156), some (.int (nI (i + 1)))]) ?_ (Eq.refl 3) (wk_s rfl (wk_s rfl (wk_s rfl wk_0)))
      exact ih2 hl2 (u1 (u1 (u1 (u1 (u1 (u1 (u1 (u1 b2 5 6 i (b2.2.1 36 i)) 5 7 i (b2.2.1 36 (tn (8 + (nI i))))) 5 8 i (b2.2.1 36 (tn (16 + (nI i))))) 5 9 i (b2.2.1 36 (tn (24 + (nI i))))) 5 10 i (b2.2.1 36 (tn (32 + (nI i))))) 5 11 i (b2.2.1 36 (tn (40 + (nI i))))) 5 12 i (b2.2.1 36 (tn (48 + (nI i))))) 5 13 i (b2.2.1 36 (tn (56 + (nI i))))) eN2
  exact (lp2 0 (Nat.zero_le _) _ rfl).wk (Eq.refl 3) (wk_s rfl (wk_s rfl (wk_s rfl wk_0)))

theorem u2_1 {M : MT} {c i : Nat} {v : Int32} : (u2 M c i v).1 = M.1 := rfl
theorem u2_J {M : MT} {c i : Nat} {v : Int32} : (u2 M c i v).2.2 = M.2.2 := rfl
theorem keepB_1 {M : MT} : (sp_X9_keepB M).1 = M.1 := by
  unfold sp_X9_keepB
  simp only [u2_1]
  exact itN_inv (fun x : MT => x.1 = M.1) 3 (itN_inv (fun x : MT => x.1 = M.1) 8 rfl (fun k m _ hm => by unfold st_X9_keepB_2; simp only [u2_1]; exact hm)) (fun k m _ hm => by unfold st_X9_keepB_109; simp only [u2_1]; exact hm)
theorem keepB_J {M : MT} : (sp_X9_keepB M).2.2 = M.2.2 := by
  unfold sp_X9_keepB
  simp only [u2_J]
  exact itN_inv (fun x : MT => x.2.2 = M.2.2) 3 (itN_inv (fun x : MT => x.2.2 = M.2.2) 8 rfl (fun k m _ hm => by unfold st_X9_keepB_2; simp only [u2_J]; exact hm)) (fun k m _ hm => by unfold st_X9_keepB_109; simp only [u2_J]; exact hm)
theorem keepO_1 {M : MT} : (sp_X9_keepO M).1 = M.1 := by
  unfold sp_X9_keepO
  simp only [u2_1]
  exact itN_inv (fun x : MT => x.1 = M.1) 3 (itN_inv (fun x : MT => x.1 = M.1) 8 rfl (fun k m _ hm => by unfold st_X9_keepO_2; simp only [u2_1]; exact hm)) (fun k m _ hm => by unfold st_X9_keepO_109; simp only [u2_1]; exact hm)
theorem keepO_J {M : MT} : (sp_X9_keepO M).2.2 = M.2.2 := by
  unfold sp_X9_keepO
  simp only [u2_J]
  exact itN_inv (fun x : MT => x.2.2 = M.2.2) 3 (itN_inv (fun x : MT => x.2.2 = M.2.2) 8 rfl (fun k m _ hm => by unfold st_X9_keepO_2; simp only [u2_J]; exact hm)) (fun k m _ hm => by unfold st_X9_keepO_109; simp only [u2_J]; exact hm)
theorem wr_none {M : MT} {s n : Int32} (hn : bd n 41) (q : sp_X9_wrong M s n = -1) : ∀ i, i < tn n → sp_X9_isThrowTold M (sp_X9_toldAt M s (nI i)) = true := by
  intro i hi
  have hl := bd_lt hn
  unfold sp_X9_wrong at q
  rcases fndN_cases (P := ps_X9_wrong_2 M s n) (A := fun i => (if (sp_X9_isThrowTold M (sp_X9_toldAt M s (nI i))) = true then (-1) else nI i)) (B := (-1)) (tn n) 0 with ⟨_, h2⟩ | ⟨j, h1, h2, h3, h4, h5⟩
  · have := h2 i (Nat.zero_le _) (by omega)
    unfold ps_X9_wrong_2 at this
    split at this
    · rename_i z; exact z
    · cases this
  · exfalso
    rw [h5] at q
    unfold ps_X9_wrong_2 at h3
    split at h3
    · cases h3
    · rename_i z
      rw [if_neg z] at q
      have := Int32.toInt_inj.mpr q
      rw [nI_toInt (by omega)] at this
      have e : (-1 : Int32).toInt = -1 := by decide
      rw [e] at this
      omega

def sp_X9_image (M : MT) : Int32 × MT :=
  (1, sp_X9_keepO (u2 M 30 5 1))
set_option maxRecDepth 20000 in
theorem c_X9_image {K : KT} {M : MT}   (hokr : OKR M) : CM K 2 yX9_image cX9_image 1 (some FieldType.int) [rf K 140] M (some (.int (sp_X9_image M).1)) (sp_X9_image M).2 := by
  refine CM.ofI (by decide) [some (rf K 140)] rfl (Nat.le_of_ble_eq_true rfl) (Nat.le_of_ble_eq_true rfl) (fun G hG _ hret => ?_)
  obtain ⟨hok5, hhl, htp5⟩ := id hokr
  obtain ⟨hwc5, hpc5, ⟨hcl5, hcm5⟩, hwi5, hda5, hle5, hk85, ha85, hW5, hP5⟩ := id hok5
  have hwl5 := bd_lt hwc5
  have hpl5 := bd_lt hpc5
  have hcl5l := bd_lt hcl5
  refine r_aload_n (pc := 0) hG dX9_image_0 rfl ?_
  refine r_iconst (pc := 1) hG dX9_image_1 ic_1 ?_
  refine pf_X9_imaged (pc := 2) (by decide)  hG dX9_image_2 tw_1190 ?_
  refine r_aload_n (pc := 5) hG dX9_image_5 rfl ?_
  refine r_aload_n (pc := 6) hG dX9_image_6 rfl ?_
  refine gf_X9_old (pc := 7)  hG dX9_image_7 tw_1191 ?_
  refine cv_X9_keep (pc := 10)  hG dX9_image_10 tw_1367 (c_X9_keepO) (by decide) (Nat.le_of_ble_eq_true rfl) ?_
  refine r_iconst (pc := 13) hG dX9_image_13 ic_1 ?_
  exact hret _ _ _ _ dX9_image_14 (pair_fst (show sp_X9_image M = (1, sp_X9_keepO (u2 M 30 5 1)) from (by unfold sp_X9_image; exact rfl))) (pair_snd (show sp_X9_image M = (1, sp_X9_keepO (u2 M 30 5 1)) from (by unfold sp_X9_image; exact rfl)))

def st_X9_back_24 (M : MT) (i : Nat) (b24 : MT) : MT :=
  if (b24.2.1 32 i) < (10 + (b24.1 5 1 0)) then
    b24
  else
    u2 b24 32 i (-1)
def sp_X9_back (M : MT) : Int32 × MT :=
  if (M.2.1 30 5) = 0 then
    ((sp_X9_no M (-5)).1, (sp_X9_no M (-5)).2)
  else
    (1, itN 8 (st_X9_back_24 M) (sp_X9_againO M))
set_option maxRecDepth 20000 in
theorem c_X9_back {K : KT} {M : MT}   (hokr : OKR M) : CM K 2 yX9_back cX9_back 2 (some FieldType.int) [rf K 140] M (some (.int (sp_X9_back M).1)) (sp_X9_back M).2 := by
  refine CM.ofI (by decide) [some (rf K 140), none] rfl (Nat.le_of_ble_eq_true rfl) (Nat.le_of_ble_eq_true rfl) (fun G hG _ hret => ?_)
  obtain ⟨hok5, hhl, htp5⟩ := id hokr
  obtain ⟨hwc5, hpc5, ⟨hcl5, hcm5⟩, hwi5, hda5, hle5, hk85, ha85, hW5, hP5⟩ := id hok5
  have hwl5 := bd_lt hwc5
  have hpl5 := bd_lt hpc5
  have hcl5l := bd_lt hcl5
  refine r_aload_n (pc := 0) hG dX9_back_0 rfl ?_
  refine gf_X9_imaged (pc := 1)  hG dX9_back_1 tw_1190 ?_
  refine r_if_ne (pc := 4) (tgt := 14) hG dX9_back_4 (by decide) (fun c1 => ?_) (fun c1 => ?_)
  · refine r_aload_n (pc := 14) hG dX9_back_14 rfl ?_
    refine r_aload_n (pc := 15) hG dX9_back_15 rfl ?_
    refine gf_X9_old (pc := 16)  hG dX9_back_16 tw_1191 ?_
    refine cv_X9_again (pc := 19)  hG dX9_back_19 tw_1414 (c_X9_againO) (by decide) (Nat.le_of_ble_eq_true rfl) ?_
    refine r_iconst (pc := 22) hG dX9_back_22 ic_0 ?_
    refine r_istore_n (pc := 23) (ls' := [_, _]) hG dX9_back_23 rfl rfl ?_
    have lp24 : ∀ i, i ≤ 8 → ∀ b24 : MT, b24 = itN i (st_X9_back_24 M) (sp_X9_againO M) → J G K b24 24 [some (rf K 140), some (.int (nI i))] [] := by
      refine up_ind 8 (fun i hi24 ih24 => ?_)
      intro b24 hg24
      refine r_iload_n (pc := 24) hG dX9_back_24 rfl ?_
      refine r_bipush (pc := 25) hG dX9_back_25 bc_8 ?_
      refine r_icmp_ge (pc := 27) (tgt := 59) hG dX9_back_27 (by decide) (fun c2 => ?_) (fun c2 => ?_)
      · have e24 : i = 8 := by have := (le_nI (k := 8) (i := i) (Nat.le_of_ble_eq_true rfl) (by omega)).mp c2; omega
        subst hg24
        subst e24
        refine r_iconst (pc := 59) hG dX9_back_59 ic_1 ?_
        exact hret _ _ _ _ dX9_back_60 (pair_fst (show sp_X9_back M = (1, itN 8 (st_X9_back_24 M) (sp_X9_againO M)) from (by unfold sp_X9_back; exact (if_neg c1)))) (pair_snd (show sp_X9_back M = (1, itN 8 (st_X9_back_24 M) (sp_X9_againO M)) from (by unfold sp_X9_back; exact (if_neg c1))))
      · have hl24 : i < 8 := by have := mt (le_nI (k := 8) (i := i) (Nat.le_of_ble_eq_true rfl) (by omega)).mpr c2; omega
        refine r_aload_n (pc := 30) hG dX9_back_30 rfl ?_
        refine gf_X9_holding (pc := 31)  hG dX9_back_31 tw_1186 ?_
        refine r_iload_n (pc := 34) hG dX9_back_34 rfl ?_
        refine al_Mholding (pc := 35)  hG dX9_back_35 (ix_nI (by omega) (Nat.le_of_ble_eq_true rfl)) ?_
        refine r_bipush (pc := 36) hG dX9_back_36 bc_10 ?_
        refine r_aload_n (pc := 38) hG dX9_back_38 rfl ?_
        refine gf_X9_people (pc := 39)  hG dX9_back_39 tw_1173 ?_
        refine r_iadd (pc := 42) hG dX9_back_42 ?_
        refine r_icmp_lt (pc := 43) (tgt := 53) hG dX9_back_43 (by decide) (fun c3 => ?_) (fun c3 => ?_)
        · refine r_iinc (pc := 53) (v := nI (i + 1)) (ls' := [_, _]) hG dX9_back_53 rfl (nI_1 _) rfl rfl ?_
          refine r_goto (pc := 56) (tgt := 24) hG dX9_back_56 (by decide) ?_
          have eN24 : b24 = st_X9_back_24 M i (itN i (st_X9_back_24 M) (sp_X9_againO M)) := by rw [← hg24]; unfold st_X9_back_24; exact Eq.symm (if_pos c3)
          refine J.wk (ls' := [some (rf K 140), some (.int (nI (i + 1)))]) ?_ (Eq.refl 2) (wk_s rfl (wk_s rfl wk_0))
          exact ih24 hl24 b24 eN24
        · refine r_aload_n (pc := 46) hG dX9_back_46 rfl ?_
          refine gf_X9_holding (pc := 47)  hG dX9_back_47 tw_1186 ?_
          refine r_iload_n (pc := 50) hG dX9_back_50 rfl ?_
          refine r_iconst (pc := 51) hG dX9_back_51 ic_m1 ?_
          refine as_Mholding (pc := 52)  hG dX9_back_52 (ix_nI (by omega) (Nat.le_of_ble_eq_true rfl)) ?_
          refine r_iinc (pc := 53) (v := nI (i + 1)) (ls' := [_, _]) hG dX9_back_53 rfl (nI_1 _) rfl rfl ?_
          refine r_goto (pc := 56) (tgt := 24) hG dX9_back_56 (by decide) ?_
          have eN24 : u2 b24 32 i (-1) = st_X9_back_24 M i (itN i (st_X9_back_24 M) (sp_X9_againO M)) := by rw [← hg24]; unfold st_X9_back_24; exact Eq.symm (if_neg c3)
          refine J.wk (ls' := [some (rf K 140), some (.int (nI (i + 1)))]) ?_ (Eq.refl 2) (wk_s rfl (wk_s rfl wk_0))
          exact ih24 hl24 (u2 b24 32 i (-1)) eN24
    exact (lp24 0 (Nat.zero_le _) _ rfl).wk (Eq.refl 2) (wk_s rfl (wk_s rfl wk_0))
  · refine r_aload_n (pc := 7) hG dX9_back_7 rfl ?_
    refine r_bipush (pc := 8) hG dX9_back_8 bc_m5 ?_
    refine cv_X9_no (pc := 10)  hG dX9_back_10 tw_1273 (c_X9_no (bd_lit (n := 7) (by decide))) (by decide) (Nat.le_of_ble_eq_true rfl) ?_
    exact hret _ _ _ _ dX9_back_13 (pair_fst (show sp_X9_back M = ((sp_X9_no M (-5)).1, (sp_X9_no M (-5)).2) from (by unfold sp_X9_back; exact (if_pos c1)))) (pair_snd (show sp_X9_back M = ((sp_X9_no M (-5)).1, (sp_X9_no M (-5)).2) from (by unfold sp_X9_back; exact (if_pos c1))))
