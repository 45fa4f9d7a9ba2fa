theorem ne5_bd {M : MT} {a b c : Int32} (h : bd (M.1 5 1 0) 9) : sp_X9_nearest M a b c = -1 ∨ bd (sp_X9_nearest M a b c) 8 ∧ tn (sp_X9_nearest M a b c) < tn (M.1 5 1 0) := by
  have hl := bd_lt h
  unfold sp_X9_nearest
  exact itN_inv (fun x : Int32 => x = -1 ∨ bd x 8 ∧ tn x < tn (M.1 5 1 0)) _ (Or.inl rfl) (fun k b hk hb => by unfold st_X9_nearest_6; (repeat' split) <;> first | exact hb | exact Or.inr ⟨bd_nI (by omega) (Nat.le_of_ble_eq_true rfl), by rw [tn_nI (by omega)]; exact hk⟩)
theorem ca5 {M : MT} {a b : Int32} (h : bd (M.1 5 1 0) 9) (hn : ¬ sp_X9_catcher M a b = -1) : bd (sp_X9_catcher M a b) 8 ∧ tn (sp_X9_catcher M a b) < tn (M.1 5 1 0) := by
  unfold sp_X9_catcher at hn ⊢
  split
  · rename_i z; exfalso; apply hn; first | exact if_pos z | rfl
  · rename_i z
    rw [if_neg z] at hn
    split
    · rename_i z2; rw [if_pos z2] at hn; exact (ne5_bd h).resolve_left hn
    · rename_i z2; rw [if_neg z2] at hn; exact (ne5_bd h).resolve_left hn
theorem cb5_bd {M : MT} {a b c : Int32} (h : bd (M.1 5 1 0) 9) (hn : ¬ sp_X9_caughtBy M a b c = -1) : bd (sp_X9_caughtBy M a b c) 8 := (ca5 h hn).1

def sp_X9_throwsOne (M : MT) (a0 : Int32) (a1 : Int32) (a2 : Int32) : Int32 × MT :=
  if (sp_X9_caughtBy M a0 a1 a2) = (-1) then
    ((-1), M)
  else
    if (sp_X9_isComing (u1 M 5 12 (tn (sp_X9_caughtBy M a0 a1 a2)) a0) (sp_X9_caughtBy M a0 a1 a2) a0) = true then
      (sp_X9_caughtBy M a0 a1 a2, u1 (u1 M 5 12 (tn (sp_X9_caughtBy M a0 a1 a2)) a0) 5 13 (tn (sp_X9_caughtBy M a0 a1 a2)) ((M.1 5 3 1) + (sp_X9_slowTo (u1 M 5 12 (tn (sp_X9_caughtBy M a0 a1 a2)) a0) (sp_X9_caughtBy M a0 a1 a2) (M.1 5 7 (tn a0)))))
    else
      (sp_X9_caughtBy M a0 a1 a2, u1 (u1 M 5 12 (tn (sp_X9_caughtBy M a0 a1 a2)) a0) 5 13 (tn (sp_X9_caughtBy M a0 a1 a2)) (-1))
set_option maxRecDepth 20000 in
theorem c_X9_throwsOne {K : KT} {M : MT} {a0 : Int32} {a1 : Int32} {a2 : Int32}  (ha0b : bd (a0) 8) (hpc5 : bd (M.1 5 1 0) 9) : CM K 6 yX9_throwsOne cX9_throwsOne 5 (some FieldType.int) [rf K 140, .int a0, .int a1, .int a2] M (some (.int (sp_X9_throwsOne M a0 a1 a2).1)) (sp_X9_throwsOne M a0 a1 a2).2 := by
  refine CM.ofI (by decide) [some (rf K 140), some (.int a0), some (.int a1), some (.int a2), none] rfl (Nat.le_of_ble_eq_true rfl) (Nat.le_of_ble_eq_true rfl) (fun G hG _ hret => ?_)
  have hpl5 := bd_lt hpc5
  refine r_aload_n (pc := 0) hG dX9_throwsOne_0 rfl ?_
  refine r_iload_n (pc := 1) hG dX9_throwsOne_1 rfl ?_
  refine r_iload_n (pc := 2) hG dX9_throwsOne_2 rfl ?_
  refine r_iload_n (pc := 3) hG dX9_throwsOne_3 rfl ?_
  refine cv_X9_caughtBy (pc := 4)  hG dX9_throwsOne_4 tw_1450 (c_X9_caughtBy ha0b hpc5) (by decide) (Nat.le_of_ble_eq_true rfl) ?_
  refine r_istore (pc := 7) (ls' := [_, _, _, _, _]) hG dX9_throwsOne_7 rfl rfl ?_
  refine r_iload (pc := 9) hG dX9_throwsOne_9 rfl ?_
  refine r_iconst (pc := 11) hG dX9_throwsOne_11 ic_m1 ?_
  refine r_icmp_ne (pc := 12) (tgt := 17) hG dX9_throwsOne_12 (by decide) (fun c1 => ?_) (fun c1 => ?_)
  · refine r_aload_n (pc := 17) hG dX9_throwsOne_17 rfl ?_
    refine gf_X9_rose (pc := 18)  hG dX9_throwsOne_18 tw_1177 ?_
    refine r_iload (pc := 21) hG dX9_throwsOne_21 rfl ?_
    refine r_iload_n (pc := 23) hG dX9_throwsOne_23 rfl ?_
    refine as_Mrose (pc := 24)  hG dX9_throwsOne_24 (ix_bd (cb5_bd hpc5 c1)) ?_
    refine r_aload_n (pc := 25) hG dX9_throwsOne_25 rfl ?_
    refine gf_X9_due (pc := 26)  hG dX9_throwsOne_26 tw_1178 ?_
    refine r_iload (pc := 29) hG dX9_throwsOne_29 rfl ?_
    refine r_aload_n (pc := 31) hG dX9_throwsOne_31 rfl ?_
    refine r_iload (pc := 32) hG dX9_throwsOne_32 rfl ?_
    refine r_iload_n (pc := 34) hG dX9_throwsOne_34 rfl ?_
    refine cv_X9_isComing (pc := 35)  hG dX9_throwsOne_35 tw_1475 (c_X9_isComing (cb5_bd hpc5 c1) ha0b) (by decide) (Nat.le_of_ble_eq_true rfl) ?_
    refine r_ifz_eq (pc := 38) (tgt := 63) hG dX9_throwsOne_38 (by decide) (fun c2 => ?_) (fun c2 => ?_)
    · refine r_iconst (pc := 63) hG dX9_throwsOne_63 ic_m1 ?_
      refine as_Mdue (pc := 64)  hG dX9_throwsOne_64 (ix_bd (cb5_bd hpc5 c1)) ?_
      refine r_iload (pc := 65) hG dX9_throwsOne_65 rfl ?_
      exact hret _ _ _ _ dX9_throwsOne_67 (pair_fst (show sp_X9_throwsOne M a0 a1 a2 = (sp_X9_caughtBy M a0 a1 a2, u1 (u1 M 5 12 (tn (sp_X9_caughtBy M a0 a1 a2)) a0) 5 13 (tn (sp_X9_caughtBy M a0 a1 a2)) (-1)) from (by unfold sp_X9_throwsOne; exact ((if_neg c1).trans (if_neg c2))))) (pair_snd (show sp_X9_throwsOne M a0 a1 a2 = (sp_X9_caughtBy M a0 a1 a2, u1 (u1 M 5 12 (tn (sp_X9_caughtBy M a0 a1 a2)) a0) 5 13 (tn (sp_X9_caughtBy M a0 a1 a2)) (-1)) from (by unfold sp_X9_throwsOne; exact ((if_neg c1).trans (if_neg c2)))))
    · refine r_aload_n (pc := 41) hG dX9_throwsOne_41 rfl ?_
      refine gf_X9_ways (pc := 42)  hG dX9_throwsOne_42 tw_1167 ?_
      refine r_iconst (pc := 45) hG dX9_throwsOne_45 ic_1 ?_
      refine al_Mways (pc := 46)  hG dX9_throwsOne_46 (ix_lit (j := 1) (by decide)) ?_
      refine r_aload_n (pc := 47) hG dX9_throwsOne_47 rfl ?_
      refine r_iload (pc := 48) hG dX9_throwsOne_48 rfl ?_
      refine r_aload_n (pc := 50) hG dX9_throwsOne_50 rfl ?_
      refine gf_X9_floor (pc := 51)  hG dX9_throwsOne_51 tw_1171 ?_
      refine r_iload_n (pc := 54) hG dX9_throwsOne_54 rfl ?_
      refine al_Mfloor (pc := 55)  hG dX9_throwsOne_55 (ix_bd ha0b) ?_
      refine cv_X9_slowTo (pc := 56)  hG dX9_throwsOne_56 tw_1319 (c_X9_slowTo (cb5_bd hpc5 c1)) (by decide) (Nat.le_of_ble_eq_true rfl) ?_
      refine r_iadd (pc := 59) hG dX9_throwsOne_59 ?_
      refine r_goto (pc := 60) (tgt := 64) hG dX9_throwsOne_60 (by decide) ?_
      refine as_Mdue (pc := 64)  hG dX9_throwsOne_64 (ix_bd (cb5_bd hpc5 c1)) ?_
      refine r_iload (pc := 65) hG dX9_throwsOne_65 rfl ?_
      exact hret _ _ _ _ dX9_throwsOne_67 (pair_fst (show sp_X9_throwsOne M a0 a1 a2 = (sp_X9_caughtBy M a0 a1 a2, u1 (u1 M 5 12 (tn (sp_X9_caughtBy M a0 a1 a2)) a0) 5 13 (tn (sp_X9_caughtBy M a0 a1 a2)) ((M.1 5 3 1) + (sp_X9_slowTo (u1 M 5 12 (tn (sp_X9_caughtBy M a0 a1 a2)) a0) (sp_X9_caughtBy M a0 a1 a2) (M.1 5 7 (tn a0))))) from (by unfold sp_X9_throwsOne; exact ((if_neg c1).trans (if_pos c2))))) (pair_snd (show sp_X9_throwsOne M a0 a1 a2 = (sp_X9_caughtBy M a0 a1 a2, u1 (u1 M 5 12 (tn (sp_X9_caughtBy M a0 a1 a2)) a0) 5 13 (tn (sp_X9_caughtBy M a0 a1 a2)) ((M.1 5 3 1) + (sp_X9_slowTo (u1 M 5 12 (tn (sp_X9_caughtBy M a0 a1 a2)) a0) (sp_X9_caughtBy M a0 a1 a2) (M.1 5 7 (tn a0))))) from (by unfold sp_X9_throwsOne; exact ((if_neg c1).trans (if_pos c2)))))
  · refine r_iconst (pc := 15) hG dX9_throwsOne_15 ic_m1 ?_
    exact hret _ _ _ _ dX9_throwsOne_16 (pair_fst (show sp_X9_throwsOne M a0 a1 a2 = ((-1), M) from (by unfold sp_X9_throwsOne; exact (if_pos c1)))) (pair_snd (show sp_X9_throwsOne M a0 a1 a2 = ((-1), M) from (by unfold sp_X9_throwsOne; exact (if_pos c1))))

def sp_X9_thrown (M : MT) (a0 : Int32) (a1 : Int32) (a2 : Int32) : Int32 × MT :=
  if (sp_X9_isThrow M a0 a1 a2) = true then
    ((sp_X9_throwsOne M a0 a1 a2).1, (sp_X9_throwsOne M a0 a1 a2).2)
  else
    ((sp_X9_no M (-2)).1, (sp_X9_no M (-2)).2)
set_option maxRecDepth 20000 in
theorem c_X9_thrown {K : KT} {M : MT} {a0 : Int32} {a1 : Int32} {a2 : Int32}  (hokr : OKR M) : CM K 7 yX9_thrown cX9_thrown 4 (some FieldType.int) [rf K 140, .int a0, .int a1, .int a2] M (some (.int (sp_X9_thrown M a0 a1 a2).1)) (sp_X9_thrown M a0 a1 a2).2 := by
  refine CM.ofI (by decide) [some (rf K 140), some (.int a0), some (.int a1), some (.int a2)] rfl (Nat.le_of_ble_eq_true rfl) (Nat.le_of_ble_eq_true rfl) (fun G hG _ hret => ?_)
  obtain ⟨hok5, hhl, htp5⟩ := id hokr
  obtain ⟨hwc5, hpc5, ⟨hcl5, hcm5⟩, hwi5, hda5, hle5, hk85, ha85, hW5, hP5⟩ := id hok5
  have hwl5 := bd_lt hwc5
  have hpl5 := bd_lt hpc5
  have hcl5l := bd_lt hcl5
  refine r_aload_n (pc := 0) hG dX9_thrown_0 rfl ?_
  refine r_iload_n (pc := 1) hG dX9_thrown_1 rfl ?_
  refine r_iload_n (pc := 2) hG dX9_thrown_2 rfl ?_
  refine r_iload_n (pc := 3) hG dX9_thrown_3 rfl ?_
  refine cv_X9_isThrow (pc := 4)  hG dX9_thrown_4 tw_1438 (c_X9_isThrow) (by decide) (Nat.le_of_ble_eq_true rfl) ?_
  refine r_ifz_eq (pc := 7) (tgt := 20) hG dX9_thrown_7 (by decide) (fun c1 => ?_) (fun c1 => ?_)
  · refine r_aload_n (pc := 20) hG dX9_thrown_20 rfl ?_
    refine r_bipush (pc := 21) hG dX9_thrown_21 bc_m2 ?_
    refine cv_X9_no (pc := 23)  hG dX9_thrown_23 tw_1273 (c_X9_no (bd_lit (n := 7) (by decide))) (by decide) (Nat.le_of_ble_eq_true rfl) ?_
    exact hret _ _ _ _ dX9_thrown_26 (pair_fst (show sp_X9_thrown M a0 a1 a2 = ((sp_X9_no M (-2)).1, (sp_X9_no M (-2)).2) from (by unfold sp_X9_thrown; exact (if_neg c1)))) (pair_snd (show sp_X9_thrown M a0 a1 a2 = ((sp_X9_no M (-2)).1, (sp_X9_no M (-2)).2) from (by unfold sp_X9_thrown; exact (if_neg c1))))
  · refine r_aload_n (pc := 10) hG dX9_thrown_10 rfl ?_
    refine r_iload_n (pc := 11) hG dX9_thrown_11 rfl ?_
    refine r_iload_n (pc := 12) hG dX9_thrown_12 rfl ?_
    refine r_iload_n (pc := 13) hG dX9_thrown_13 rfl ?_
    refine cv_X9_throwsOne (pc := 14)  hG dX9_thrown_14 tw_1674 (c_X9_throwsOne (isThr5 hwc5 c1) hpc5) (by decide) (Nat.le_of_ble_eq_true rfl) ?_
    refine r_goto (pc := 17) (tgt := 26) hG dX9_thrown_17 (by decide) ?_
    exact hret _ _ _ _ dX9_thrown_26 (pair_fst (show sp_X9_thrown M a0 a1 a2 = ((sp_X9_throwsOne M a0 a1 a2).1, (sp_X9_throwsOne M a0 a1 a2).2) from (by unfold sp_X9_thrown; exact (if_pos c1)))) (pair_snd (show sp_X9_thrown M a0 a1 a2 = ((sp_X9_throwsOne M a0 a1 a2).1, (sp_X9_throwsOne M a0 a1 a2).2) from (by unfold sp_X9_thrown; exact (if_pos c1))))

def st_X9_passes_24 (M : MT) (i : Nat) (b24 : MT) : MT :=
  if (b24.1 5 13 i) = (-1) then
    b24
  else
    if (b24.1 5 13 i) ≤ (b24.1 5 3 1) then
      u1 (u1 (u1 b24 5 12 i (-1)) 5 13 i (-1)) 5 4 0 ((b24.1 5 4 0) + 1)
    else
      b24
def sp_X9_passes (M : MT) : MT :=
  if 999 ≤ (M.1 5 3 1) then
    (itN (tn (M.1 5 1 0)) (st_X9_passes_24 M) M)
  else
    (itN (tn (M.1 5 1 0)) (st_X9_passes_24 M) (u1 M 5 3 1 ((M.1 5 3 1) + 1)))
set_option maxRecDepth 20000 in
theorem c_X9_passes {K : KT} {M : MT}   (hpc5 : bd (M.1 5 1 0) 9) : CM K 1 yX9_passes cX9_passes 2 none [rf K 140] M none (sp_X9_passes M) := by
  refine CM.ofV (by decide) [some (rf K 140), none] rfl (Nat.le_of_ble_eq_true rfl) (Nat.le_of_ble_eq_true rfl) (fun G hG _ hret => ?_)
  have hpl5 := bd_lt hpc5
  refine r_aload_n (pc := 0) hG dX9_passes_0 rfl ?_
  refine gf_X9_ways (pc := 1)  hG dX9_passes_1 tw_1167 ?_
  refine r_iconst (pc := 4) hG dX9_passes_4 ic_1 ?_
  refine al_Mways (pc := 5)  hG dX9_passes_5 (ix_lit (j := 1) (by decide)) ?_
  refine r_sipush (pc := 6) hG dX9_passes_6 sc_999 ?_
  refine r_icmp_ge (pc := 9) (tgt := 22) hG dX9_passes_9 (by decide) (fun c1 => ?_) (fun c1 => ?_)
  · refine r_iconst (pc := 22) hG dX9_passes_22 ic_0 ?_
    refine r_istore_n (pc := 23) (ls' := [_, _]) hG dX9_passes_23 rfl rfl ?_
    have lp24 : ∀ i, i ≤ (tn (M.1 5 1 0)) → ∀ b24 : MT, b24 = itN i (st_X9_passes_24 M) M → J G K b24 24 [some (rf K 140), some (.int (nI i))] [] := by
      refine up_ind (tn (M.1 5 1 0)) (fun i hi24 ih24 => ?_)
      intro b24 hg24
      have hq24 : b24.1 5 1 0 = M.1 5 1 0 := by subst hg24; exact itN_inv (fun x : MT => x.1 5 1 0 = M.1 5 1 0) i (by first | rfl | simp [u1]) (fun k m hk hm => by unfold st_X9_passes_24; (repeat' split) <;> simp [u1, hm])
      refine r_iload_n (pc := 24) hG dX9_passes_24 rfl ?_
      refine r_aload_n (pc := 25) hG dX9_passes_25 rfl ?_
      refine gf_X9_people (pc := 26)  hG dX9_passes_26 tw_1173 ?_
      refine r_icmp_ge (pc := 29) (tgt := 90) hG dX9_passes_29 (by decide) (fun c2 => ?_) (fun c2 => ?_)
      · have e24 : i = (tn (M.1 5 1 0)) := by rw [hq24] at c2; have := (bd_le hpc5 (by omega)).mp c2; omega
        subst hg24
        subst e24
        exact hret _ _ _ dX9_passes_90 (Eq.symm (by unfold sp_X9_passes; exact (if_pos c1)))
      · have hl24 : i < (tn (M.1 5 1 0)) := by rw [hq24] at c2; have := mt (bd_le hpc5 (by omega)).mpr c2; omega
        refine r_aload_n (pc := 32) hG dX9_passes_32 rfl ?_
        refine gf_X9_due (pc := 33)  hG dX9_passes_33 tw_1178 ?_
        refine r_iload_n (pc := 36) hG dX9_passes_36 rfl ?_
        refine al_Mdue (pc := 37)  hG dX9_passes_37 (ix_nI (by omega) (Nat.le_of_ble_eq_true rfl)) ?_
        refine r_iconst (pc := 38) hG dX9_passes_38 ic_m1 ?_
        refine r_icmp_eq (pc := 39) (tgt := 84) hG dX9_passes_39 (by decide) (fun c3 => ?_) (fun c3 => ?_)
        · refine r_iinc (pc := 84) (v := nI (i + 1)) (ls' := [_, _]) hG dX9_passes_84 rfl (nI_1 _) rfl rfl ?_
          refine r_goto (pc := 87) (tgt := 24) hG dX9_passes_87 (by decide) ?_
          have eN24 : b24 = st_X9_passes_24 M i (itN i (st_X9_passes_24 M) M) := by rw [← hg24]; unfold st_X9_passes_24; exact Eq.symm (if_pos c3)
          refine J.wk (ls' := [some (rf K 140), some (.int (nI (i + 1)))]) ?_ (Eq.refl 2) (wk_s rfl (wk_s rfl wk_0))
          exact ih24 hl24 b24 eN24
        · refine r_aload_n (pc := 42) hG dX9_passes_42 rfl ?_
          refine gf_X9_due (pc := 43)  hG dX9_passes_43 tw_1178 ?_
          refine r_iload_n (pc := 46) hG dX9_passes_46 rfl ?_
          refine al_Mdue (pc := 47)  hG dX9_passes_47 (ix_nI (by omega) (Nat.le_of_ble_eq_true rfl)) ?_
          refine r_aload_n (pc := 48) hG dX9_passes_48 rfl ?_
          refine gf_X9_ways (pc := 49)  hG dX9_passes_49 tw_1167 ?_
          refine r_iconst (pc := 52) hG dX9_passes_52 ic_1 ?_
          refine al_Mways (pc := 53)  hG dX9_passes_53 (ix_lit (j := 1) (by decide)) ?_
          refine r_icmp_le (pc := 54) (tgt := 60) hG dX9_passes_54 (by decide) (fun c4 => ?_) (fun c4 => ?_)
          · refine r_aload_n (pc := 60) hG dX9_passes_60 rfl ?_
            refine gf_X9_rose (pc := 61)  hG dX9_passes_61 tw_1177 ?_
            refine r_iload_n (pc := 64) hG dX9_passes_64 rfl ?_
            refine r_iconst (pc := 65) hG dX9_passes_65 ic_m1 ?_
            refine as_Mrose (pc := 66)  hG dX9_passes_66 (ix_nI (by omega) (Nat.le_of_ble_eq_true rfl)) ?_
            refine r_aload_n (pc := 67) hG dX9_passes_67 rfl ?_
            refine gf_X9_due (pc := 68)  hG dX9_passes_68 tw_1178 ?_
            refine r_iload_n (pc := 71) hG dX9_passes_71 rfl ?_
            refine r_iconst (pc := 72) hG dX9_passes_72 ic_m1 ?_
            refine as_Mdue (pc := 73)  hG dX9_passes_73 (ix_nI (by omega) (Nat.le_of_ble_eq_true rfl)) ?_
            refine r_aload_n (pc := 74) hG dX9_passes_74 rfl ?_
            refine r_dup (pc := 75) hG dX9_passes_75 rfl ?_
            refine gf_X9_said (pc := 76)  hG dX9_passes_76 tw_1168 ?_
            refine r_iconst (pc := 79) hG dX9_passes_79 ic_1 ?_
            refine r_iadd (pc := 80) hG dX9_passes_80 ?_
            refine pf_X9_said (pc := 81)  hG dX9_passes_81 tw_1168 ?_
            refine r_iinc (pc := 84) (v := nI (i + 1)) (ls' := [_, _]) hG dX9_passes_84 rfl (nI_1 _) rfl rfl ?_
            refine r_goto (pc := 87) (tgt := 24) hG dX9_passes_87 (by decide) ?_
            have eN24 : u1 (u1 (u1 b24 5 12 i (-1)) 5 13 i (-1)) 5 4 0 ((b24.1 5 4 0) + 1) = st_X9_passes_24 M i (itN i (st_X9_passes_24 M) M) := by rw [← hg24]; unfold st_X9_passes_24; exact Eq.symm ((if_neg c3).trans (if_pos c4))
            refine J.wk (ls' := [some (rf K 140), some (.int (nI (i + 1)))]) ?_ (Eq.refl 2) (wk_s rfl (wk_s rfl wk_0))
            exact ih24 hl24 (u1 (u1 (u1 b24 5 12 i (-1)) 5 13 i (-1)) 5 4 0 ((b24.1 5 4 0) + 1)) eN24
          · refine r_goto (pc := 57) (tgt := 84) hG dX9_passes_57 (by decide) ?_
            refine r_iinc (pc := 84) (v := nI (i + 1)) (ls' := [_, _]) hG dX9_passes_84 rfl (nI_1 _) rfl rfl ?_
            refine r_goto (pc := 87) (tgt := 24) hG dX9_passes_87 (by decide) ?_
            have eN24 : b24 = st_X9_passes_24 M i (itN i (st_X9_passes_24 M) M) := by rw [← hg24]; unfold st_X9_passes_24; exact Eq.symm ((if_neg c3).trans (if_neg c4))
            refine J.wk (ls' := [some (rf K 140), some (.int (nI (i + 1)))]) ?_ (Eq.refl 2) (wk_s rfl (wk_s rfl wk_0))
            exact ih24 hl24 b24 eN24
    exact (lp24 0 (Nat.zero_le _) _ rfl).wk (Eq.refl 2) (wk_s rfl (wk_s rfl wk_0))
  · refine r_aload_n (pc := 12) hG dX9_passes_12 rfl ?_
    refine gf_X9_ways (pc := 13)  hG dX9_passes_13 tw_1167 ?_
    refine r_iconst (pc := 16) hG dX9_passes_16 ic_1 ?_
    refine r_dup2 (pc := 17) hG dX9_passes_17 rfl rfl ?_
    refine al_Mways (pc := 18)  hG dX9_passes_18 (ix_lit (j := 1) (by decide)) ?_
    refine r_iconst (pc := 19) hG dX9_passes_19 ic_1 ?_
    refine r_iadd (pc := 20) hG dX9_passes_20 ?_
    refine as_Mways (pc := 21)  hG dX9_passes_21 (ix_lit (j := 1) (by decide)) ?_
    refine r_iconst (pc := 22) hG dX9_passes_22 ic_0 ?_
    refine r_istore_n (pc := 23) (ls' := [_, _]) hG dX9_passes_23 rfl rfl ?_
    have lp24 : ∀ i, i ≤ (tn (M.1 5 1 0)) → ∀ b24 : MT, b24 = itN i (st_X9_passes_24 M) (u1 M 5 3 1 ((M.1 5 3 1) + 1)) → J G K b24 24 [some (rf K 140), some (.int (nI i))] [] := by
      refine up_ind (tn (M.1 5 1 0)) (fun i hi24 ih24 => ?_)
      intro b24 hg24
      have hq24 : b24.1 5 1 0 = M.1 5 1 0 := by subst hg24; exact itN_inv (fun x : MT => x.1 5 1 0 = M.1 5 1 0) i (by first | rfl | simp [u1]) (fun k m hk hm => by unfold st_X9_passes_24; (repeat' split) <;> simp [u1, hm])
      refine r_iload_n (pc := 24) hG dX9_passes_24 rfl ?_
      refine r_aload_n (pc := 25) hG dX9_passes_25 rfl ?_
      refine gf_X9_people (pc := 26)  hG dX9_passes_26 tw_1173 ?_
      refine r_icmp_ge (pc := 29) (tgt := 90) hG dX9_passes_29 (by decide) (fun c5 => ?_) (fun c5 => ?_)
      · have e24 : i = (tn (M.1 5 1 0)) := by rw [hq24] at c5; have := (bd_le hpc5 (by omega)).mp c5; omega
        subst hg24
        subst e24
        exact hret _ _ _ dX9_passes_90 (Eq.symm (by unfold sp_X9_passes; exact (if_neg c1)))
      · have hl24 : i < (tn (M.1 5 1 0)) := by rw [hq24] at c5; have := mt (bd_le hpc5 (by omega)).mpr c5; omega
        refine r_aload_n (pc := 32) hG dX9_passes_32 rfl ?_
        refine gf_X9_due (pc := 33)  hG dX9_passes_33 tw_1178 ?_
        refine r_iload_n (pc := 36) hG dX9_passes_36 rfl ?_
        refine al_Mdue (pc := 37)  hG dX9_passes_37 (ix_nI (by omega) (Nat.le_of_ble_eq_true rfl)) ?_
        refine r_iconst (pc := 38) hG dX9_passes_38 ic_m1 ?_
        refine r_icmp_eq (pc := 39) (tgt := 84) hG dX9_passes_39 (by decide) (fun c6 => ?_) (fun c6 => ?_)
        · refine r_iinc (pc := 84) (v := nI (i + 1)) (ls' := [_, _]) hG dX9_passes_84 rfl (nI_1 _) rfl rfl ?_
          refine r_goto (pc := 87) (tgt := 24) hG dX9_passes_87 (by decide) ?_
          have eN24 : b24 = st_X9_passes_24 M i (itN i (st_X9_passes_24 M) (u1 M 5 3 1 ((M.1 5 3 1) + 1))) := by rw [← hg24]; unfold st_X9_passes_24; exact Eq.symm (if_pos c6)
          refine J.wk (ls' := [some (rf K 140), some (.int (nI (i + 1)))]) ?_ (Eq.refl 2) (wk_s rfl (wk_s rfl wk_0))
          exact ih24 hl24 b24 eN24
        · refine r_aload_n (pc := 42) hG dX9_passes_42 rfl ?_
          refine gf_X9_due (pc := 43)  hG dX9_passes_43 tw_1178 ?_
          refine r_iload_n (pc := 46) hG dX9_passes_46 rfl ?_
          refine al_Mdue (pc := 47)  hG dX9_passes_47 (ix_nI (by omega) (Nat.le_of_ble_eq_true rfl)) ?_
          refine r_aload_n (pc := 48) hG dX9_passes_48 rfl ?_
          refine gf_X9_ways (pc := 49)  hG dX9_passes_49 tw_1167 ?_
          refine r_iconst (pc := 52) hG dX9_passes_52 ic_1 ?_
          refine al_Mways (pc := 53)  hG dX9_passes_53 (ix_lit (j := 1) (by decide)) ?_
          refine r_icmp_le (pc := 54) (tgt := 60) hG dX9_passes_54 (by decide) (fun c7 => ?_) (fun c7 => ?_)
          · refine r_aload_n (pc := 60) hG dX9_passes_60 rfl ?_
            refine gf_X9_rose (pc := 61)  hG dX9_passes_61 tw_1177 ?_
            refine r_iload_n (pc := 64) hG dX9_passes_64 rfl ?_
            refine r_iconst (pc := 65) hG dX9_passes_65 ic_m1 ?_
            refine as_Mrose (pc := 66)  hG dX9_passes_66 (ix_nI (by omega) (Nat.le_of_ble_eq_true rfl)) ?_
            refine r_aload_n (pc := 67) hG dX9_passes_67 rfl ?_
            refine gf_X9_due (pc := 68)  hG dX9_passes_68 tw_1178 ?_
            refine r_iload_n (pc := 71) hG dX9_passes_71 rfl ?_
            refine r_iconst (pc := 72) hG dX9_passes_72 ic_m1 ?_
            refine as_Mdue (pc := 73)  hG dX9_passes_73 (ix_nI (by omega) (Nat.le_of_ble_eq_true rfl)) ?_
            refine r_aload_n (pc := 74) hG dX9_passes_74 rfl ?_
            refine r_dup (pc := 75) hG dX9_passes_75 rfl ?_
            refine gf_X9_said (pc := 76)  hG dX9_passes_76 tw_1168 ?_
            refine r_iconst (pc := 79) hG dX9_passes_79 ic_1 ?_
            refine r_iadd (pc := 80) hG dX9_passes_80 ?_
            refine pf_X9_said (pc := 81)  hG dX9_passes_81 tw_1168 ?_
            refine r_iinc (pc := 84) (v := nI (i + 1)) (ls' := [_, _]) hG dX9_passes_84 rfl (nI_1 _) rfl rfl ?_
            refine r_goto (pc := 87) (tgt := 24) hG dX9_passes_87 (by decide) ?_
            have eN24 : u1 (u1 (u1 b24 5 12 i (-1)) 5 13 i (-1)) 5 4 0 ((b24.1 5 4 0) + 1) = st_X9_passes_24 M i (itN i (st_X9_passes_24 M) (u1 M 5 3 1 ((M.1 5 3 1) + 1))) := by rw [← hg24]; unfold st_X9_passes_24; exact Eq.symm ((if_neg c6).trans (if_pos c7))
            refine J.wk (ls' := [some (rf K 140), some (.int (nI (i + 1)))]) ?_ (Eq.refl 2) (wk_s rfl (wk_s rfl wk_0))
            exact ih24 hl24 (u1 (u1 (u1 b24 5 12 i (-1)) 5 13 i (-1)) 5 4 0 ((b24.1 5 4 0) + 1)) eN24
          · refine r_goto (pc := 57) (tgt := 84) hG dX9_passes_57 (by decide) ?_
            refine r_iinc (pc := 84) (v := nI (i + 1)) (ls' := [_, _]) hG dX9_passes_84 rfl (nI_1 _) rfl rfl ?_
            refine r_goto (pc := 87) (tgt := 24) hG dX9_passes_87 (by decide) ?_
            have eN24 : b24 = st_X9_passes_24 M i (itN i (st_X9_passes_24 M) (u1 M 5 3 1 ((M.1 5 3 1) + 1))) := by rw [← hg24]; unfold st_X9_passes_24; exact Eq.symm ((if_neg c6).trans (if_neg c7))
            refine J.wk (ls' := [some (rf K 140), some (.int (nI (i + 1)))]) ?_ (Eq.refl 2) (wk_s rfl (wk_s rfl wk_0))
            exact ih24 hl24 b24 eN24
    exact (lp24 0 (Nat.zero_le _) _ rfl).wk (Eq.refl 2) (wk_s rfl (wk_s rfl wk_0))

theorem ps_p {M : MT} : (sp_X9_passes M).1 5 1 0 = M.1 5 1 0 := by
  unfold sp_X9_passes
  (repeat' split) <;> exact itN_inv (fun x : MT => x.1 5 1 0 = M.1 5 1 0) _ (by first | rfl | simp [u1]) (fun k m hk hm => by unfold st_X9_passes_24; (repeat' split) <;> simp [u1, hm])
theorem ps_w {M : MT} : (sp_X9_passes M).1 5 0 0 = M.1 5 0 0 := by
  unfold sp_X9_passes
  (repeat' split) <;> exact itN_inv (fun x : MT => x.1 5 0 0 = M.1 5 0 0) _ (by first | rfl | simp [u1]) (fun k m hk hm => by unfold st_X9_passes_24; (repeat' split) <;> simp [u1, hm])
theorem to_p {M : MT} {a b c : Int32} : (sp_X9_throwsOne M a b c).2.1 5 1 0 = M.1 5 1 0 := by
  unfold sp_X9_throwsOne
  (repeat' split) <;> simp [u1]
theorem to_w {M : MT} {a b c : Int32} : (sp_X9_throwsOne M a b c).2.1 5 0 0 = M.1 5 0 0 := by
  unfold sp_X9_throwsOne
  (repeat' split) <;> simp [u1]

theorem wi5_bd1 {a : Int32} {n : Nat} {x : Int32} (c : sp_X9_within a 1 x = true) (hx : x = nI n) (hn : n < 2147483648) : bd a (n + 1) := by
  have := within_iff.mp (w98 ▸ c)
  exact bd_in (m := n) (Int32.le_trans (by decide) this.1) (by rw [← hx]; exact this.2) hn (by omega)

def st_X9_days_19 (M : MT) (a0 : Int32) (i : Nat) (b19 : MT) : MT :=
  sp_X9_passes b19
def sp_X9_days (M : MT) (a0 : Int32) : Int32 × MT :=
  if (sp_X9_within a0 1 60) = true then
    ((itN (tn a0) (st_X9_days_19 M a0) M).1 5 4 0, itN (tn a0) (st_X9_days_19 M a0) M)
  else
    ((sp_X9_no M (-2)).1, (sp_X9_no M (-2)).2)
set_option maxRecDepth 20000 in
theorem c_X9_days {K : KT} {M : MT} {a0 : Int32}  (hokr : OKR M) : CM K 2 yX9_days cX9_days 3 (some FieldType.int) [rf K 140, .int a0] M (some (.int (sp_X9_days M a0).1)) (sp_X9_days M a0).2 := by
  refine CM.ofI (by decide) [some (rf K 140), some (.int a0), none] rfl (Nat.le_of_ble_eq_true rfl) (Nat.le_of_ble_eq_true rfl) (fun G hG _ hret => ?_)
  obtain ⟨hok5, hhl, htp5⟩ := id hokr
  obtain ⟨hwc5, hpc5, ⟨hcl5, hcm5⟩, hwi5, hda5, hle5, hk85, ha85, hW5, hP5⟩ := id hok5
  have hwl5 := bd_lt hwc5
  have hpl5 := bd_lt hpc5
  have hcl5l := bd_lt hcl5
  refine r_iload_n (pc := 0) hG dX9_days_0 rfl ?_
  refine r_iconst (pc := 1) hG dX9_days_1 ic_1 ?_
  refine r_bipush (pc := 2) hG dX9_days_2 bc_60 ?_
  refine cs_X9_within (pc := 4)  hG dX9_days_4 tw_1270 (c_X9_within) (by decide) (Nat.le_of_ble_eq_true rfl) ?_
  refine r_ifz_ne (pc := 7) (tgt := 17) hG dX9_days_7 (by decide) (fun c1 => ?_) (fun c1 => ?_)
  · refine r_iconst (pc := 17) hG dX9_days_17 ic_0 ?_
    refine r_istore_n (pc := 18) (ls' := [_, _, _]) hG dX9_days_18 rfl rfl ?_
    have hb19 : bd a0 61 := (wi5_bd1 (n := 60) c1 rfl (Nat.le_of_ble_eq_true rfl))
    have hb19l := bd_lt hb19
    have lp19 : ∀ i, i ≤ (tn a0) → ∀ b19 : MT, b19 = itN i (st_X9_days_19 M a0) M → J G K b19 19 [some (rf K 140), some (.int a0), some (.int (nI i))] [] := by
      refine up_ind (tn a0) (fun i hi19 ih19 => ?_)
      intro b19 hg19
      have hp195 : bd (b19.1 5 1 0) 9 := by subst hg19; exact itN_inv (fun x : MT => bd (x.1 5 1 0) 9) i hpc5 (fun k m hk hm => by unfold st_X9_days_19; rw [ps_p]; exact hm)
      refine r_iload_n (pc := 19) hG dX9_days_19 rfl ?_
      refine r_iload_n (pc := 20) hG dX9_days_20 rfl ?_
      refine r_icmp_ge (pc := 21) (tgt := 34) hG dX9_days_21 (by decide) (fun c2 => ?_) (fun c2 => ?_)
      · have e19 : i = (tn a0) := by have := (bd_le hb19 (by omega)).mp c2; omega
        subst hg19
        subst e19
        refine r_aload_n (pc := 34) hG dX9_days_34 rfl ?_
        refine gf_X9_said (pc := 35)  hG dX9_days_35 tw_1168 ?_
        exact hret _ _ _ _ dX9_days_38 (pair_fst (show sp_X9_days M a0 = ((itN (tn a0) (st_X9_days_19 M a0) M).1 5 4 0, itN (tn a0) (st_X9_days_19 M a0) M) from (by unfold sp_X9_days; exact (if_pos c1)))) (pair_snd (show sp_X9_days M a0 = ((itN (tn a0) (st_X9_days_19 M a0) M).1 5 4 0, itN (tn a0) (st_X9_days_19 M a0) M) from (by unfold sp_X9_days; exact (if_pos c1))))
      · have hl19 : i < (tn a0) := by have := mt (bd_le hb19 (by omega)).mpr c2; omega
        refine r_aload_n (pc := 24) hG dX9_days_24 rfl ?_
        refine cv_X9_passes (pc := 25)  hG dX9_days_25 tw_1682 (c_X9_passes hp195) (by decide) (Nat.le_of_ble_eq_true rfl) ?_
        refine r_iinc (pc := 28) (v := nI (i + 1)) (ls' := [_, _, _]) hG dX9_days_28 rfl (nI_1 _) rfl rfl ?_
        refine r_goto (pc := 31) (tgt := 19) hG dX9_days_31 (by decide) ?_
        have eN19 : sp_X9_passes b19 = st_X9_days_19 M a0 i (itN i (st_X9_days_19 M a0) M) := by rw [← hg19]; unfold st_X9_days_19; exact Eq.symm rfl
        refine J.wk (ls' := [some (rf K 140), some (.int a0), some (.int (nI (i + 1)))]) ?_ (Eq.refl 3) (wk_s rfl (wk_s rfl (wk_s rfl wk_0)))
        exact ih19 hl19 (sp_X9_passes b19) eN19
    exact (lp19 0 (Nat.zero_le _) _ rfl).wk (Eq.refl 3) (wk_s rfl (wk_s rfl (wk_s rfl wk_0)))
  · refine r_aload_n (pc := 10) hG dX9_days_10 rfl ?_
    refine r_bipush (pc := 11) hG dX9_days_11 bc_m2 ?_
    refine cv_X9_no (pc := 13)  hG dX9_days_13 tw_1273 (c_X9_no (bd_lit (n := 7) (by decide))) (by decide) (Nat.le_of_ble_eq_true rfl) ?_
    exact hret _ _ _ _ dX9_days_16 (pair_fst (show sp_X9_days M a0 = ((sp_X9_no M (-2)).1, (sp_X9_no M (-2)).2) from (by unfold sp_X9_days; exact (if_neg c1)))) (pair_snd (show sp_X9_days M a0 = ((sp_X9_no M (-2)).1, (sp_X9_no M (-2)).2) from (by unfold sp_X9_days; exact (if_neg c1))))

def sp_X9_draw (M : MT) (a0 : Int32) : Int32 × MT :=
  (irm (ius (((M.1 5 5 0) * 1103515245) + 12345) 16) a0, u1 M 5 5 0 (((M.1 5 5 0) * 1103515245) + 12345))
set_option maxRecDepth 20000 in
theorem c_X9_draw {K : KT} {M : MT} {a0 : Int32}  (hnz : ¬ a0 = 0) : CM K 1 yX9_draw cX9_draw 2 (some FieldType.int) [rf K 140, .int a0] M (some (.int (sp_X9_draw M a0).1)) (sp_X9_draw M a0).2 := by
  refine CM.ofI (by decide) [some (rf K 140), some (.int a0)] rfl (Nat.le_of_ble_eq_true rfl) (Nat.le_of_ble_eq_true rfl) (fun G hG _ hret => ?_)
  refine r_aload_n (pc := 0) hG dX9_draw_0 rfl ?_
  refine r_aload_n (pc := 1) hG dX9_draw_1 rfl ?_
  refine gf_X9_seed (pc := 2)  hG dX9_draw_2 tw_1179 ?_
  refine r_ldc_w (pc := 5) hG dX9_draw_5 tw_1694 ?_
  refine r_imul (pc := 8) hG dX9_draw_8 ?_
  refine r_sipush (pc := 9) hG dX9_draw_9 sc_12345 ?_
  refine r_iadd (pc := 12) hG dX9_draw_12 ?_
  refine pf_X9_seed (pc := 13)  hG dX9_draw_13 tw_1179 ?_
  refine r_aload_n (pc := 16) hG dX9_draw_16 rfl ?_
  refine gf_X9_seed (pc := 17)  hG dX9_draw_17 tw_1179 ?_
  refine r_bipush (pc := 20) hG dX9_draw_20 bc_16 ?_
  refine r_iushr (pc := 22) hG dX9_draw_22 ?_
  refine r_iload_n (pc := 23) hG dX9_draw_23 rfl ?_
  refine r_irem (pc := 24) hG dX9_draw_24 hnz ?_
  exact hret _ _ _ _ dX9_draw_25 (pair_fst (show sp_X9_draw M a0 = (irm (ius (((M.1 5 5 0) * 1103515245) + 12345) 16) a0, u1 M 5 5 0 (((M.1 5 5 0) * 1103515245) + 12345)) from (by unfold sp_X9_draw; exact rfl))) (pair_snd (show sp_X9_draw M a0 = (irm (ius (((M.1 5 5 0) * 1103515245) + 12345) 16) a0, u1 M 5 5 0 (((M.1 5 5 0) * 1103515245) + 12345)) from (by unfold sp_X9_draw; exact rfl)))
