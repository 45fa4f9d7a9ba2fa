def st_X0_seekBed_27 (M : MT) (i : Nat) (b12 : MT) (i27 : Nat) (b27 : Int32) : Int32 :=
  b27 + (sp_X5_countLandings b12 2 (nI i27) (nI i))
def st_X0_seekBed_12 (M : MT) (i : Nat) (b12 : MT) : MT :=
  sp_X0_propose b12 (nI i) (itN (tn (b12.1 2 0 0)) (st_X0_seekBed_27 M i b12) 0)
def sp_X0_seekBed (M : MT) : MT :=
  (itN (tn (M.1 2 2 0)) (st_X0_seekBed_12 M) (u2 (u2 M 2 0 0) 2 1 0))
set_option maxRecDepth 20000 in
theorem c_X0_seekBed {K : KT} {M : MT}   (hok2 : OKs M 2) : CM K 5 yX0_seekBed cX0_seekBed 4 none [rf K 3] M none (sp_X0_seekBed M) := by
  refine CM.ofV (by decide) [some (rf K 3), none, none, none] rfl (Nat.le_of_ble_eq_true rfl) (Nat.le_of_ble_eq_true rfl) (fun G hG _ hret => ?_)
  obtain ⟨hwc2, hpc2, ⟨hcl2, hcm2⟩, hwi2, hda2, hle2, hk82, ha82, hW2, hP2⟩ := id hok2
  have hwl2 := bd_lt hwc2
  have hpl2 := bd_lt hpc2
  have hcl2l := bd_lt hcl2
  refine r_aload_n (pc := 0) hG dX0_seekBed_0 rfl ?_
  refine r_iconst (pc := 1) hG dX0_seekBed_1 ic_0 ?_
  refine pf_X0_bestCell (pc := 2)  hG dX0_seekBed_2 tw_227 ?_
  refine r_aload_n (pc := 5) hG dX0_seekBed_5 rfl ?_
  refine r_iconst (pc := 6) hG dX0_seekBed_6 ic_0 ?_
  refine pf_X0_bestCount (pc := 7)  hG dX0_seekBed_7 tw_229 ?_
  refine r_iconst (pc := 10) hG dX0_seekBed_10 ic_0 ?_
  refine r_istore_n (pc := 11) (ls' := [_, _, _, _]) hG dX0_seekBed_11 rfl rfl ?_
  have lp12 : ∀ i, i ≤ (tn (M.1 2 2 0)) → ∀ b12 : MT, b12 = itN i (st_X0_seekBed_12 M) (u2 (u2 M 2 0 0) 2 1 0) → J G K b12 12 [some (rf K 3), some (.int (nI i)), none, none] [] := by
    refine up_ind (tn (M.1 2 2 0)) (fun i hi12 ih12 => ?_)
    intro b12 hg12
    have hq12 : b12.1 = M.1 := by subst hg12; exact itN_inv (fun m : MT => m.1 = M.1) i rfl (fun k m hk hm => by unfold st_X0_seekBed_12; rw [propose_1]; exact hm)
    have hw12 : bd (b12.1 2 0 0) 9 := by rw [hq12]; exact hwc2
    refine r_iload_n (pc := 12) hG dX0_seekBed_12 rfl ?_
    refine r_aload_n (pc := 13) hG dX0_seekBed_13 rfl ?_
    refine gf_X0_draft (pc := 14)  hG dX0_seekBed_14 tw_224 ?_
    refine gf_X5_cells (pc := 17) (by omega) hG dX0_seekBed_17 tw_178 ?_
    refine r_icmp_ge (pc := 20) (tgt := 68) hG dX0_seekBed_20 (by decide) (fun c1 => ?_) (fun c1 => ?_)
    · have e12 : i = (tn (M.1 2 2 0)) := by rw [hq12] at c1; have := (bd_le hcl2 (by omega)).mp c1; omega
      subst hg12
      subst e12
      exact hret _ _ _ dX0_seekBed_68 (Eq.symm (by unfold sp_X0_seekBed; exact rfl))
    · have hl12 : i < (tn (M.1 2 2 0)) := by rw [hq12] at c1; have := mt (bd_le hcl2 (by omega)).mpr c1; omega
      refine r_iconst (pc := 23) hG dX0_seekBed_23 ic_0 ?_
      refine r_istore_n (pc := 24) (ls' := [_, _, _, _]) hG dX0_seekBed_24 rfl rfl ?_
      refine r_iconst (pc := 25) hG dX0_seekBed_25 ic_0 ?_
      refine r_istore_n (pc := 26) (ls' := [_, _, _, _]) hG dX0_seekBed_26 rfl rfl ?_
      have hb27 : bd (b12.1 2 0 0) 9 := hw12
      have hb27l := bd_lt hb27
      have lp27 : ∀ i27, i27 ≤ (tn (b12.1 2 0 0)) → ∀ b27 : Int32, b27 = itN i27 (st_X0_seekBed_27 M i b12) 0 → J G K b12 27 [some (rf K 3), some (.int (nI i)), some (.int b27), some (.int (nI i27))] [] := by
        refine up_ind (tn (b12.1 2 0 0)) (fun i27 hi27 ih27 => ?_)
        intro b27 hg27
        refine r_iload_n (pc := 27) hG dX0_seekBed_27 rfl ?_
        refine r_aload_n (pc := 28) hG dX0_seekBed_28 rfl ?_
        refine gf_X0_draft (pc := 29)  hG dX0_seekBed_29 tw_224 ?_
        refine gf_X5_windowCount (pc := 32) (by omega) hG dX0_seekBed_32 tw_171 ?_
        refine r_icmp_ge (pc := 35) (tgt := 56) hG dX0_seekBed_35 (by decide) (fun c2 => ?_) (fun c2 => ?_)
        · have e27 : i27 = (tn (b12.1 2 0 0)) := by have := (bd_le hb27 (by omega)).mp c2; omega
          subst hg27
          subst e27
          refine r_aload_n (pc := 56) hG dX0_seekBed_56 rfl ?_
          refine r_iload_n (pc := 57) hG dX0_seekBed_57 rfl ?_
          refine r_iload_n (pc := 58) hG dX0_seekBed_58 rfl ?_
          refine cv_X0_propose (pc := 59)  hG dX0_seekBed_59 tw_955 (c_X0_propose) (by decide) (Nat.le_of_ble_eq_true rfl) ?_
          refine r_iinc (pc := 62) (v := nI (i + 1)) (ls' := [_, _, _, _]) hG dX0_seekBed_62 rfl (nI_1 _) rfl rfl ?_
          refine r_goto (pc := 65) (tgt := 12) hG dX0_seekBed_65 (by decide) ?_
          have eN12 : sp_X0_propose b12 (nI i) (itN (tn (b12.1 2 0 0)) (st_X0_seekBed_27 M i b12) 0) = st_X0_seekBed_12 M i (itN i (st_X0_seekBed_12 M) (u2 (u2 M 2 0 0) 2 1 0)) := by rw [← hg12]; unfold st_X0_seekBed_12; exact Eq.symm rfl
          refine J.wk (ls' := [some (rf K 3), some (.int (nI (i + 1))), none, none]) ?_ (Eq.refl 4) (wk_s rfl (wk_s rfl (wk_n (wk_n wk_0))))
          exact ih12 hl12 (sp_X0_propose b12 (nI i) (itN (tn (b12.1 2 0 0)) (st_X0_seekBed_27 M i b12) 0)) eN12
        · have hl27 : i27 < (tn (b12.1 2 0 0)) := by have := mt (bd_le hb27 (by omega)).mpr c2; omega
          refine r_iload_n (pc := 38) hG dX0_seekBed_38 rfl ?_
          refine r_aload_n (pc := 39) hG dX0_seekBed_39 rfl ?_
          refine gf_X0_draft (pc := 40)  hG dX0_seekBed_40 tw_224 ?_
          refine r_iload_n (pc := 43) hG dX0_seekBed_43 rfl ?_
          refine r_iload_n (pc := 44) hG dX0_seekBed_44 rfl ?_
          refine cv_X5_countLandings (pc := 45) (by omega) hG dX0_seekBed_45 tw_1018 (c_X5_countLandings (by omega) (bd_nI (by omega) (Nat.le_of_ble_eq_true rfl))) (by decide) (Nat.le_of_ble_eq_true rfl) ?_
          refine r_iadd (pc := 48) hG dX0_seekBed_48 ?_
          refine r_istore_n (pc := 49) (ls' := [_, _, _, _]) hG dX0_seekBed_49 rfl rfl ?_
          refine r_iinc (pc := 50) (v := nI (i27 + 1)) (ls' := [_, _, _, _]) hG dX0_seekBed_50 rfl (nI_1 _) rfl rfl ?_
          refine r_goto (pc := 53) (tgt := 27) hG dX0_seekBed_53 (by decide) ?_
          have eN27 : b27 + (sp_X5_countLandings b12 2 (nI i27) (nI i)) = st_X0_seekBed_27 M i b12 i27 (itN i27 (st_X0_seekBed_27 M i b12) 0) := by rw [← hg27]; unfold st_X0_seekBed_27; exact Eq.symm rfl
          refine J.wk (ls' := [some (rf K 3), some (.int (nI i)), some (.int (b27 + (sp_X5_countLandings b12 2 (nI i27) (nI i)))), some (.int (nI (i27 + 1)))]) ?_ (Eq.refl 4) (wk_s rfl (wk_s rfl (wk_s rfl (wk_s rfl wk_0))))
          exact ih27 hl27 (b27 + (sp_X5_countLandings b12 2 (nI i27) (nI i))) eN27
      exact (lp27 0 (Nat.zero_le _) _ rfl).wk (Eq.refl 4) (wk_s rfl (wk_s rfl (wk_s rfl (wk_s rfl wk_0))))
  exact (lp12 0 (Nat.zero_le _) _ rfl).wk (Eq.refl 4) (wk_s rfl (wk_s rfl (wk_n (wk_n wk_0))))

def st_X0_seekPlace_45 (M : MT) (a0 : Int32) (i : Nat) (b45 : MT) : MT :=
  sp_X0_propose (u1 b45 2 11 (tn a0) (nI i)) (nI i) (sp_X0_countOpenings (u1 b45 2 11 (tn a0) (nI i)) (sp_X5_cellsCaughtBy (u1 b45 2 11 (tn a0) (nI i)) 2 a0))
def st_X0_seekPlace_2 (M : MT) (a0 : Int32) (i : Nat) (b2 : MT) : MT :=
  u2 b2 3 i (sp_X5_openCells b2 2 (nI i))
def sp_X0_seekPlace (M : MT) (a0 : Int32) : MT :=
  (itN (tn (M.1 2 2 0)) (st_X0_seekPlace_45 M a0) (u2 (u2 (itN (tn (M.1 2 0 0)) (st_X0_seekPlace_2 M a0) M) 2 0 0) 2 1 0))
set_option maxRecDepth 20000 in
theorem c_X0_seekPlace {K : KT} {M : MT} {a0 : Int32}  (ha0b : bd (a0) 8) (hok2 : OKs M 2) : CM K 5 yX0_seekPlace cX0_seekPlace 3 none [rf K 3, .int a0] M none (sp_X0_seekPlace M a0) := by
  refine CM.ofV (by decide) [some (rf K 3), some (.int a0), none] rfl (Nat.le_of_ble_eq_true rfl) (Nat.le_of_ble_eq_true rfl) (fun G hG _ hret => ?_)
  obtain ⟨hwc2, hpc2, ⟨hcl2, hcm2⟩, hwi2, hda2, hle2, hk82, ha82, hW2, hP2⟩ := id hok2
  have hwl2 := bd_lt hwc2
  have hpl2 := bd_lt hpc2
  have hcl2l := bd_lt hcl2
  refine r_iconst (pc := 0) hG dX0_seekPlace_0 ic_0 ?_
  refine r_istore_n (pc := 1) (ls' := [_, _, _]) hG dX0_seekPlace_1 rfl rfl ?_
  have lp2 : ∀ i, i ≤ (tn (M.1 2 0 0)) → ∀ b2 : MT, b2 = itN i (st_X0_seekPlace_2 M a0) M → J G K b2 2 [some (rf K 3), some (.int a0), some (.int (nI i))] [] := by
    refine up_ind (tn (M.1 2 0 0)) (fun i hi2 ih2 => ?_)
    intro b2 hg2
    have hq2 : b2.1 = M.1 := by subst hg2; exact itN_inv (fun m : MT => m.1 = M.1) i rfl (fun k m hk hm => by unfold st_X0_seekPlace_2; exact hm)
    refine r_iload_n (pc := 2) hG dX0_seekPlace_2 rfl ?_
    refine r_aload_n (pc := 3) hG dX0_seekPlace_3 rfl ?_
    refine gf_X0_draft (pc := 4)  hG dX0_seekPlace_4 tw_224 ?_
    refine gf_X5_windowCount (pc := 7) (by omega) hG dX0_seekPlace_7 tw_171 ?_
    refine r_icmp_ge (pc := 10) (tgt := 33) hG dX0_seekPlace_10 (by decide) (fun c1 => ?_) (fun c1 => ?_)
    · have e2 : i = (tn (M.1 2 0 0)) := by rw [hq2] at c1; have := (bd_le hwc2 (by omega)).mp c1; omega
      subst hg2
      subst e2
      refine r_aload_n (pc := 33) hG dX0_seekPlace_33 rfl ?_
      refine r_iconst (pc := 34) hG dX0_seekPlace_34 ic_0 ?_
      refine pf_X0_bestCell (pc := 35)  hG dX0_seekPlace_35 tw_227 ?_
      refine r_aload_n (pc := 38) hG dX0_seekPlace_38 rfl ?_
      refine r_iconst (pc := 39) hG dX0_seekPlace_39 ic_0 ?_
      refine pf_X0_bestCount (pc := 40)  hG dX0_seekPlace_40 tw_229 ?_
      refine r_iconst (pc := 43) hG dX0_seekPlace_43 ic_0 ?_
      refine r_istore_n (pc := 44) (ls' := [_, _, _]) hG dX0_seekPlace_44 rfl rfl ?_
      have lp45 : ∀ i, i ≤ (tn (M.1 2 2 0)) → ∀ b45 : MT, b45 = itN i (st_X0_seekPlace_45 M a0) (u2 (u2 (itN (tn (M.1 2 0 0)) (st_X0_seekPlace_2 M a0) M) 2 0 0) 2 1 0) → J G K b45 45 [some (rf K 3), some (.int a0), some (.int (nI i))] [] := by
        refine up_ind (tn (M.1 2 2 0)) (fun i hi45 ih45 => ?_)
        intro b45 hg45
        have hq45 : OKs b45 2 ∧ b45.1 2 2 0 = M.1 2 2 0 ∧ b45.1 2 0 0 = M.1 2 0 0 := by subst hg45; exact itN_inv (fun m : MT => OKs m 2 ∧ m.1 2 2 0 = M.1 2 2 0 ∧ m.1 2 0 0 = M.1 2 0 0) i ⟨OKs_congr hok2 (congrFun hq2 2), congrFun (congrFun (congrFun hq2 2) 2) 0, congrFun (congrFun (congrFun hq2 2) 0) 0⟩ (fun k m hk hm => by unfold st_X0_seekPlace_45; exact ⟨OKs_congr (M := u1 m 2 11 (tn a0) (nI k)) (OKs_at hm.1 (by rw [hm.2.1]; exact bd_nI (by omega) (by omega))) (by rw [propose_1]), by rw [propose_1]; exact (u1_f (by decide)).trans hm.2.1, by rw [propose_1]; exact (u1_f (by decide)).trans hm.2.2⟩)
        have hw45 : bd (b45.1 2 0 0) 9 := by rw [hq45.2.2]; exact hwc2
        refine r_iload_n (pc := 45) hG dX0_seekPlace_45 rfl ?_
        refine r_aload_n (pc := 46) hG dX0_seekPlace_46 rfl ?_
        refine gf_X0_draft (pc := 47)  hG dX0_seekPlace_47 tw_224 ?_
        refine gf_X5_cells (pc := 50) (by omega) hG dX0_seekPlace_50 tw_178 ?_
        refine r_icmp_ge (pc := 53) (tgt := 92) hG dX0_seekPlace_53 (by decide) (fun c2 => ?_) (fun c2 => ?_)
        · have e45 : i = (tn (M.1 2 2 0)) := by rw [hq45.2.1] at c2; have := (bd_le hcl2 (by omega)).mp c2; omega
          subst hg45
          subst e45
          exact hret _ _ _ dX0_seekPlace_92 (Eq.symm (by unfold sp_X0_seekPlace; exact rfl))
        · have hl45 : i < (tn (M.1 2 2 0)) := by rw [hq45.2.1] at c2; have := mt (bd_le hcl2 (by omega)).mpr c2; omega
          refine r_aload_n (pc := 56) hG dX0_seekPlace_56 rfl ?_
          refine gf_X0_draft (pc := 57)  hG dX0_seekPlace_57 tw_224 ?_
          refine gf_X5_people (pc := 60) (by omega) hG dX0_seekPlace_60 tw_166 ?_
          refine r_iload_n (pc := 63) hG dX0_seekPlace_63 rfl ?_
          refine aa_PA (pc := 64) (by omega) hG dX0_seekPlace_64 (ix_bd ha0b) ?_
          refine r_iload_n (pc := 65) hG dX0_seekPlace_65 rfl ?_
          refine pf_X2_at (pc := 66) (by omega) (bd_lt ha0b) hG dX0_seekPlace_66 tw_141 ?_
          refine r_aload_n (pc := 69) hG dX0_seekPlace_69 rfl ?_
          refine r_iload_n (pc := 70) hG dX0_seekPlace_70 rfl ?_
          refine r_aload_n (pc := 71) hG dX0_seekPlace_71 rfl ?_
          refine r_aload_n (pc := 72) hG dX0_seekPlace_72 rfl ?_
          refine gf_X0_draft (pc := 73)  hG dX0_seekPlace_73 tw_224 ?_
          refine r_iload_n (pc := 76) hG dX0_seekPlace_76 rfl ?_
          refine cv_X5_cellsCaughtBy (pc := 77) (by omega) hG dX0_seekPlace_77 tw_950 (c_X5_cellsCaughtBy (by omega) ha0b (OKs_at hq45.1 (by rw [hq45.2.1]; exact bd_nI (by omega) (by omega)))) (by decide) (Nat.le_of_ble_eq_true rfl) ?_
          refine cv_X0_countOpenings (pc := 80)  hG dX0_seekPlace_80 tw_951 (c_X0_countOpenings hw45) (by decide) (Nat.le_of_ble_eq_true rfl) ?_
          refine cv_X0_propose (pc := 83)  hG dX0_seekPlace_83 tw_955 (c_X0_propose) (by decide) (Nat.le_of_ble_eq_true rfl) ?_
          refine r_iinc (pc := 86) (v := nI (i + 1)) (ls' := [_, _, _]) hG dX0_seekPlace_86 rfl (nI_1 _) rfl rfl ?_
          refine r_goto (pc := 89) (tgt := 45) hG dX0_seekPlace_89 (by decide) ?_
          have eN45 : sp_X0_propose (u1 b45 2 11 (tn a0) (nI i)) (nI i) (sp_X0_countOpenings (u1 b45 2 11 (tn a0) (nI i)) (sp_X5_cellsCaughtBy (u1 b45 2 11 (tn a0) (nI i)) 2 a0)) = st_X0_seekPlace_45 M a0 i (itN i (st_X0_seekPlace_45 M a0) (u2 (u2 (itN (tn (M.1 2 0 0)) (st_X0_seekPlace_2 M a0) M) 2 0 0) 2 1 0)) := by rw [← hg45]; unfold st_X0_seekPlace_45; exact Eq.symm rfl
          refine J.wk (ls' := [some (rf K 3), some (.int a0), some (.int (nI (i + 1)))]) ?_ (Eq.refl 3) (wk_s rfl (wk_s rfl (wk_s rfl wk_0)))
          exact ih45 hl45 (sp_X0_propose (u1 b45 2 11 (tn a0) (nI i)) (nI i) (sp_X0_countOpenings (u1 b45 2 11 (tn a0) (nI i)) (sp_X5_cellsCaughtBy (u1 b45 2 11 (tn a0) (nI i)) 2 a0))) eN45
      exact (lp45 0 (Nat.zero_le _) _ rfl).wk (Eq.refl 3) (wk_s rfl (wk_s rfl (wk_s rfl wk_0)))
    · have hl2 : i < (tn (M.1 2 0 0)) := by rw [hq2] at c1; have := mt (bd_le hwc2 (by omega)).mpr c1; omega
      refine r_aload_n (pc := 13) hG dX0_seekPlace_13 rfl ?_
      refine gf_X0_openings (pc := 14)  hG dX0_seekPlace_14 tw_226 ?_
      refine r_iload_n (pc := 17) hG dX0_seekPlace_17 rfl ?_
      refine r_aload_n (pc := 18) hG dX0_seekPlace_18 rfl ?_
      refine gf_X0_draft (pc := 19)  hG dX0_seekPlace_19 tw_224 ?_
      refine r_iload_n (pc := 22) hG dX0_seekPlace_22 rfl ?_
      refine cv_X5_openCells (pc := 23) (by omega) hG dX0_seekPlace_23 tw_785 (c_X5_openCells (by omega) (bd_nI (by omega) (Nat.le_of_ble_eq_true rfl))) (by decide) (Nat.le_of_ble_eq_true rfl) ?_
      refine as_Opn (pc := 26)  hG dX0_seekPlace_26 (ix_nI (by omega) (Nat.le_of_ble_eq_true rfl)) ?_
      refine r_iinc (pc := 27) (v := nI (i + 1)) (ls' := [_, _, _]) hG dX0_seekPlace_27 rfl (nI_1 _) rfl rfl ?_
      refine r_goto (pc := 30) (tgt := 2) hG dX0_seekPlace_30 (by decide) ?_
      have eN2 : u2 b2 3 i (sp_X5_openCells b2 2 (nI i)) = st_X0_seekPlace_2 M a0 i (itN i (st_X0_seekPlace_2 M a0) M) := by rw [← hg2]; unfold st_X0_seekPlace_2; exact Eq.symm rfl
      refine J.wk (ls' := [some (rf K 3), some (.int a0), some (.int (nI (i + 1)))]) ?_ (Eq.refl 3) (wk_s rfl (wk_s rfl (wk_s rfl wk_0)))
      exact ih2 hl2 (u2 b2 3 i (sp_X5_openCells b2 2 (nI i))) eN2
  exact (lp2 0 (Nat.zero_le _) _ rfl).wk (Eq.refl 3) (wk_s rfl (wk_s rfl (wk_s rfl wk_0)))

def sp_X8_move (M : MT) (a0 : Int32) (a1 : Int32) : Int32 × MT :=
  if (sp_X5_hasPerson M 0 a0) = true then
    if (sp_X8_isWhat a1 1) = true then
      if a1 = 0 then
        ((sp_X0_seekPlace (cpM M 2 0) a0).2.1 2 0, sp_X0_seekPlace (cpM M 2 0) a0)
      else
        ((sp_X0_seekPlace (cpM M 2 0) a0).2.1 2 1, sp_X0_seekPlace (cpM M 2 0) a0)
    else
      ((sp_X8_refuse M (-2)).1, (sp_X8_refuse M (-2)).2)
  else
    ((sp_X8_refuse M (-2)).1, (sp_X8_refuse M (-2)).2)
set_option maxRecDepth 20000 in
theorem c_X8_move {K : KT} {M : MT} {a0 : Int32} {a1 : Int32}  (hokx : OKX M) : CM K 6 yX8_move cX8_move 3 (some FieldType.int) [rf K 0, .int a0, .int a1] M (some (.int (sp_X8_move M a0 a1).1)) (sp_X8_move M a0 a1).2 := by
  refine CM.ofI (by decide) [some (rf K 0), some (.int a0), some (.int a1)] rfl (Nat.le_of_ble_eq_true rfl) (Nat.le_of_ble_eq_true rfl) (fun G hG _ hret => ?_)
  obtain ⟨hok0, hok1, hoa2, hoa3, hoa4, hsh, htp⟩ := id hokx
  obtain ⟨hwc0, hpc0, ⟨hcl0, hcm0⟩, hwi0, hda0, hle0, hk80, ha80, hW0, hP0⟩ := id hok0
  have hwl0 := bd_lt hwc0
  have hpl0 := bd_lt hpc0
  have hcl0l := bd_lt hcl0
  refine r_aload_n (pc := 0) hG dX8_move_0 rfl ?_
  refine gf_X8_live (pc := 1)  hG dX8_move_1 tw_355 ?_
  refine r_iload_n (pc := 4) hG dX8_move_4 rfl ?_
  refine cv_X5_hasPerson (pc := 5) (by omega) hG dX8_move_5 tw_442 (c_X5_hasPerson (by omega)) (by decide) (Nat.le_of_ble_eq_true rfl) ?_
  refine r_ifz_eq (pc := 8) (tgt := 19) hG dX8_move_8 (by decide) (fun c1 => ?_) (fun c1 => ?_)
  · refine r_aload_n (pc := 19) hG dX8_move_19 rfl ?_
    refine r_bipush (pc := 20) hG dX8_move_20 bc_m2 ?_
    refine cv_X8_refuse (pc := 22)  hG dX8_move_22 tw_390 (c_X8_refuse (bd_lit (n := 7) (by decide))) (by decide) (Nat.le_of_ble_eq_true rfl) ?_
    exact hret _ _ _ _ dX8_move_25 (pair_fst (show sp_X8_move M a0 a1 = ((sp_X8_refuse M (-2)).1, (sp_X8_refuse M (-2)).2) from (by unfold sp_X8_move; exact (if_neg c1)))) (pair_snd (show sp_X8_move M a0 a1 = ((sp_X8_refuse M (-2)).1, (sp_X8_refuse M (-2)).2) from (by unfold sp_X8_move; exact (if_neg c1))))
  · refine r_iload_n (pc := 11) hG dX8_move_11 rfl ?_
    refine r_iconst (pc := 12) hG dX8_move_12 ic_1 ?_
    refine cs_X8_isWhat (pc := 13)  hG dX8_move_13 tw_514 (c_X8_isWhat) (by decide) (Nat.le_of_ble_eq_true rfl) ?_
    refine r_ifz_ne (pc := 16) (tgt := 26) hG dX8_move_16 (by decide) (fun c2 => ?_) (fun c2 => ?_)
    · refine r_aload_n (pc := 26) hG dX8_move_26 rfl ?_
      refine cv_X8_freshOutlook (pc := 27)  hG dX8_move_27 tw_777 (c_X8_freshOutlook hokx) (by decide) (Nat.le_of_ble_eq_true rfl) ?_
      refine r_iload_n (pc := 30) hG dX8_move_30 rfl ?_
      refine cv_X0_seekPlace (pc := 31)  hG dX8_move_31 tw_946 (c_X0_seekPlace (hasP hpc0 c1) (OKs_copy2 (by decide) hok0 hoa2)) (by decide) (Nat.le_of_ble_eq_true rfl) ?_
      refine r_iload_n (pc := 34) hG dX8_move_34 rfl ?_
      refine r_if_ne (pc := 35) (tgt := 48) hG dX8_move_35 (by decide) (fun c3 => ?_) (fun c3 => ?_)
      · refine r_aload_n (pc := 48) hG dX8_move_48 rfl ?_
        refine gf_X8_outlook (pc := 49)  hG dX8_move_49 tw_357 ?_
        refine gf_X0_bestCount (pc := 52)  hG dX8_move_52 tw_230 ?_
        exact hret _ _ _ _ dX8_move_55 (pair_fst (show sp_X8_move M a0 a1 = ((sp_X0_seekPlace (cpM M 2 0) a0).2.1 2 1, sp_X0_seekPlace (cpM M 2 0) a0) from (by unfold sp_X8_move; exact ((if_pos c1).trans ((if_pos c2).trans (if_neg c3)))))) (pair_snd (show sp_X8_move M a0 a1 = ((sp_X0_seekPlace (cpM M 2 0) a0).2.1 2 1, sp_X0_seekPlace (cpM M 2 0) a0) from (by unfold sp_X8_move; exact ((if_pos c1).trans ((if_pos c2).trans (if_neg c3))))))
      · refine r_aload_n (pc := 38) hG dX8_move_38 rfl ?_
        refine gf_X8_outlook (pc := 39)  hG dX8_move_39 tw_357 ?_
        refine gf_X0_bestCell (pc := 42)  hG dX8_move_42 tw_228 ?_
        refine r_goto (pc := 45) (tgt := 55) hG dX8_move_45 (by decide) ?_
        exact hret _ _ _ _ dX8_move_55 (pair_fst (show sp_X8_move M a0 a1 = ((sp_X0_seekPlace (cpM M 2 0) a0).2.1 2 0, sp_X0_seekPlace (cpM M 2 0) a0) from (by unfold sp_X8_move; exact ((if_pos c1).trans ((if_pos c2).trans (if_pos c3)))))) (pair_snd (show sp_X8_move M a0 a1 = ((sp_X0_seekPlace (cpM M 2 0) a0).2.1 2 0, sp_X0_seekPlace (cpM M 2 0) a0) from (by unfold sp_X8_move; exact ((if_pos c1).trans ((if_pos c2).trans (if_pos c3))))))
    · refine r_aload_n (pc := 19) hG dX8_move_19 rfl ?_
      refine r_bipush (pc := 20) hG dX8_move_20 bc_m2 ?_
      refine cv_X8_refuse (pc := 22)  hG dX8_move_22 tw_390 (c_X8_refuse (bd_lit (n := 7) (by decide))) (by decide) (Nat.le_of_ble_eq_true rfl) ?_
      exact hret _ _ _ _ dX8_move_25 (pair_fst (show sp_X8_move M a0 a1 = ((sp_X8_refuse M (-2)).1, (sp_X8_refuse M (-2)).2) from (by unfold sp_X8_move; exact ((if_pos c1).trans (if_neg c2))))) (pair_snd (show sp_X8_move M a0 a1 = ((sp_X8_refuse M (-2)).1, (sp_X8_refuse M (-2)).2) from (by unfold sp_X8_move; exact ((if_pos c1).trans (if_neg c2)))))

def sp_X8_bed (M : MT) (a0 : Int32) : Int32 × MT :=
  if (sp_X8_isWhat a0 1) = true then
    if a0 = 0 then
      ((sp_X0_seekBed (cpM M 2 0)).2.1 2 0, sp_X0_seekBed (cpM M 2 0))
    else
      ((sp_X0_seekBed (cpM M 2 0)).2.1 2 1, sp_X0_seekBed (cpM M 2 0))
  else
    ((sp_X8_refuse M (-2)).1, (sp_X8_refuse M (-2)).2)
set_option maxRecDepth 20000 in
theorem c_X8_bed {K : KT} {M : MT} {a0 : Int32}  (hokx : OKX M) : CM K 6 yX8_bed cX8_bed 2 (some FieldType.int) [rf K 0, .int a0] M (some (.int (sp_X8_bed M a0).1)) (sp_X8_bed M a0).2 := by
  refine CM.ofI (by decide) [some (rf K 0), some (.int a0)] rfl (Nat.le_of_ble_eq_true rfl) (Nat.le_of_ble_eq_true rfl) (fun G hG _ hret => ?_)
  obtain ⟨hok0, hok1, hoa2, hoa3, hoa4, hsh, htp⟩ := id hokx
  obtain ⟨hwc0, hpc0, ⟨hcl0, hcm0⟩, hwi0, hda0, hle0, hk80, ha80, hW0, hP0⟩ := id hok0
  have hwl0 := bd_lt hwc0
  have hpl0 := bd_lt hpc0
  have hcl0l := bd_lt hcl0
  refine r_iload_n (pc := 0) hG dX8_bed_0 rfl ?_
  refine r_iconst (pc := 1) hG dX8_bed_1 ic_1 ?_
  refine cs_X8_isWhat (pc := 2)  hG dX8_bed_2 tw_514 (c_X8_isWhat) (by decide) (Nat.le_of_ble_eq_true rfl) ?_
  refine r_ifz_ne (pc := 5) (tgt := 15) hG dX8_bed_5 (by decide) (fun c1 => ?_) (fun c1 => ?_)
  · refine r_aload_n (pc := 15) hG dX8_bed_15 rfl ?_
    refine cv_X8_freshOutlook (pc := 16)  hG dX8_bed_16 tw_777 (c_X8_freshOutlook hokx) (by decide) (Nat.le_of_ble_eq_true rfl) ?_
    refine cv_X0_seekBed (pc := 19)  hG dX8_bed_19 tw_1014 (c_X0_seekBed (OKs_copy2 (by decide) hok0 hoa2)) (by decide) (Nat.le_of_ble_eq_true rfl) ?_
    refine r_iload_n (pc := 22) hG dX8_bed_22 rfl ?_
    refine r_if_ne (pc := 23) (tgt := 36) hG dX8_bed_23 (by decide) (fun c2 => ?_) (fun c2 => ?_)
    · refine r_aload_n (pc := 36) hG dX8_bed_36 rfl ?_
      refine gf_X8_outlook (pc := 37)  hG dX8_bed_37 tw_357 ?_
      refine gf_X0_bestCount (pc := 40)  hG dX8_bed_40 tw_230 ?_
      exact hret _ _ _ _ dX8_bed_43 (pair_fst (show sp_X8_bed M a0 = ((sp_X0_seekBed (cpM M 2 0)).2.1 2 1, sp_X0_seekBed (cpM M 2 0)) from (by unfold sp_X8_bed; exact ((if_pos c1).trans (if_neg c2))))) (pair_snd (show sp_X8_bed M a0 = ((sp_X0_seekBed (cpM M 2 0)).2.1 2 1, sp_X0_seekBed (cpM M 2 0)) from (by unfold sp_X8_bed; exact ((if_pos c1).trans (if_neg c2)))))
    · refine r_aload_n (pc := 26) hG dX8_bed_26 rfl ?_
      refine gf_X8_outlook (pc := 27)  hG dX8_bed_27 tw_357 ?_
      refine gf_X0_bestCell (pc := 30)  hG dX8_bed_30 tw_228 ?_
      refine r_goto (pc := 33) (tgt := 43) hG dX8_bed_33 (by decide) ?_
      exact hret _ _ _ _ dX8_bed_43 (pair_fst (show sp_X8_bed M a0 = ((sp_X0_seekBed (cpM M 2 0)).2.1 2 0, sp_X0_seekBed (cpM M 2 0)) from (by unfold sp_X8_bed; exact ((if_pos c1).trans (if_pos c2))))) (pair_snd (show sp_X8_bed M a0 = ((sp_X0_seekBed (cpM M 2 0)).2.1 2 0, sp_X0_seekBed (cpM M 2 0)) from (by unfold sp_X8_bed; exact ((if_pos c1).trans (if_pos c2)))))
  · refine r_aload_n (pc := 8) hG dX8_bed_8 rfl ?_
    refine r_bipush (pc := 9) hG dX8_bed_9 bc_m2 ?_
    refine cv_X8_refuse (pc := 11)  hG dX8_bed_11 tw_390 (c_X8_refuse (bd_lit (n := 7) (by decide))) (by decide) (Nat.le_of_ble_eq_true rfl) ?_
    exact hret _ _ _ _ dX8_bed_14 (pair_fst (show sp_X8_bed M a0 = ((sp_X8_refuse M (-2)).1, (sp_X8_refuse M (-2)).2) from (by unfold sp_X8_bed; exact (if_neg c1)))) (pair_snd (show sp_X8_bed M a0 = ((sp_X8_refuse M (-2)).1, (sp_X8_refuse M (-2)).2) from (by unfold sp_X8_bed; exact (if_neg c1))))

def sp_X8_pairs (M : MT) (a0 : Int32) : Int32 × MT :=
  if a0 = (-2) then
    if a0 = (-1) then
      (sp_X1_fondTogether (sp_X1_settle M), sp_X1_settle M)
    else
      (sp_X1_countPaired (sp_X1_settle M), sp_X1_settle M)
  else
    if a0 = (-1) then
      (sp_X1_fondTogether (sp_X1_settle M), sp_X1_settle M)
    else
      if (sp_X5_hasWindow M 0 a0) = true then
        ((sp_X1_settle M).2.1 5 (tn a0), sp_X1_settle M)
      else
        ((sp_X8_refuse M (-2)).1, (sp_X8_refuse M (-2)).2)
set_option maxRecDepth 20000 in
theorem c_X8_pairs {K : KT} {M : MT} {a0 : Int32}  (hokx : OKX M) : CM K 7 yX8_pairs cX8_pairs 2 (some FieldType.int) [rf K 0, .int a0] M (some (.int (sp_X8_pairs M a0).1)) (sp_X8_pairs M a0).2 := by
  refine CM.ofI (by decide) [some (rf K 0), some (.int a0)] rfl (Nat.le_of_ble_eq_true rfl) (Nat.le_of_ble_eq_true rfl) (fun G hG _ hret => ?_)
  obtain ⟨hok0, hok1, hoa2, hoa3, hoa4, hsh, htp⟩ := id hokx
  obtain ⟨hwc0, hpc0, ⟨hcl0, hcm0⟩, hwi0, hda0, hle0, hk80, ha80, hW0, hP0⟩ := id hok0
  have hwl0 := bd_lt hwc0
  have hpl0 := bd_lt hpc0
  have hcl0l := bd_lt hcl0
  refine r_iload_n (pc := 0) hG dX8_pairs_0 rfl ?_
  refine r_bipush (pc := 1) hG dX8_pairs_1 bc_m2 ?_
  refine r_icmp_eq (pc := 3) (tgt := 29) hG dX8_pairs_3 (by decide) (fun c1 => ?_) (fun c1 => ?_)
  · refine r_aload_n (pc := 29) hG dX8_pairs_29 rfl ?_
    refine gf_X8_pairing (pc := 30)  hG dX8_pairs_30 tw_358 ?_
    refine r_aload_n (pc := 33) hG dX8_pairs_33 rfl ?_
    refine gf_X8_live (pc := 34)  hG dX8_pairs_34 tw_355 ?_
    refine cv_X1_settle (pc := 37)  hG dX8_pairs_37 tw_823 (c_X1_settle hok0 hoa3) (by decide) (Nat.le_of_ble_eq_true rfl) ?_
    refine r_iload_n (pc := 40) hG dX8_pairs_40 rfl ?_
    refine r_iconst (pc := 41) hG dX8_pairs_41 ic_m1 ?_
    refine r_icmp_ne (pc := 42) (tgt := 53) hG dX8_pairs_42 (by decide) (fun c2 => ?_) (fun c2 => ?_)
    · refine r_iload_n (pc := 53) hG dX8_pairs_53 rfl ?_
      refine r_bipush (pc := 54) hG dX8_pairs_54 bc_m2 ?_
      refine r_icmp_ne (pc := 56) (tgt := 69) hG dX8_pairs_56 (by decide) (fun c3 => ?_) (fun c3 => ?_)
      · exact absurd c1 c3
      · refine r_aload_n (pc := 59) hG dX8_pairs_59 rfl ?_
        refine gf_X8_pairing (pc := 60)  hG dX8_pairs_60 tw_358 ?_
        refine cv_X1_countPaired (pc := 63)  hG dX8_pairs_63 tw_858 (c_X1_countPaired (settle_wc hok0)) (by decide) (Nat.le_of_ble_eq_true rfl) ?_
        refine r_goto (pc := 66) (tgt := 78) hG dX8_pairs_66 (by decide) ?_
        exact hret _ _ _ _ dX8_pairs_78 (pair_fst (show sp_X8_pairs M a0 = (sp_X1_countPaired (sp_X1_settle M), sp_X1_settle M) from (by unfold sp_X8_pairs; exact ((if_pos c1).trans (if_neg c2))))) (pair_snd (show sp_X8_pairs M a0 = (sp_X1_countPaired (sp_X1_settle M), sp_X1_settle M) from (by unfold sp_X8_pairs; exact ((if_pos c1).trans (if_neg c2)))))
    · refine r_aload_n (pc := 45) hG dX8_pairs_45 rfl ?_
      refine gf_X8_pairing (pc := 46)  hG dX8_pairs_46 tw_358 ?_
      refine cv_X1_fondTogether (pc := 49)  hG dX8_pairs_49 tw_854 (c_X1_fondTogether) (by decide) (Nat.le_of_ble_eq_true rfl) ?_
      exact hret _ _ _ _ dX8_pairs_52 (pair_fst (show sp_X8_pairs M a0 = (sp_X1_fondTogether (sp_X1_settle M), sp_X1_settle M) from (by unfold sp_X8_pairs; exact ((if_pos c1).trans (if_pos c2))))) (pair_snd (show sp_X8_pairs M a0 = (sp_X1_fondTogether (sp_X1_settle M), sp_X1_settle M) from (by unfold sp_X8_pairs; exact ((if_pos c1).trans (if_pos c2)))))
  · refine r_iload_n (pc := 6) hG dX8_pairs_6 rfl ?_
    refine r_iconst (pc := 7) hG dX8_pairs_7 ic_m1 ?_
    refine r_icmp_eq (pc := 8) (tgt := 29) hG dX8_pairs_8 (by decide) (fun c4 => ?_) (fun c4 => ?_)
    · refine r_aload_n (pc := 29) hG dX8_pairs_29 rfl ?_
      refine gf_X8_pairing (pc := 30)  hG dX8_pairs_30 tw_358 ?_
      refine r_aload_n (pc := 33) hG dX8_pairs_33 rfl ?_
      refine gf_X8_live (pc := 34)  hG dX8_pairs_34 tw_355 ?_
      refine cv_X1_settle (pc := 37)  hG dX8_pairs_37 tw_823 (c_X1_settle hok0 hoa3) (by decide) (Nat.le_of_ble_eq_true rfl) ?_
      refine r_iload_n (pc := 40) hG dX8_pairs_40 rfl ?_
      refine r_iconst (pc := 41) hG dX8_pairs_41 ic_m1 ?_
      refine r_icmp_ne (pc := 42) (tgt := 53) hG dX8_pairs_42 (by decide) (fun c5 => ?_) (fun c5 => ?_)
      · exact absurd c4 c5
      · refine r_aload_n (pc := 45) hG dX8_pairs_45 rfl ?_
        refine gf_X8_pairing (pc := 46)  hG dX8_pairs_46 tw_358 ?_
        refine cv_X1_fondTogether (pc := 49)  hG dX8_pairs_49 tw_854 (c_X1_fondTogether) (by decide) (Nat.le_of_ble_eq_true rfl) ?_
        exact hret _ _ _ _ dX8_pairs_52 (pair_fst (show sp_X8_pairs M a0 = (sp_X1_fondTogether (sp_X1_settle M), sp_X1_settle M) from (by unfold sp_X8_pairs; exact ((if_neg c1).trans (if_pos c4))))) (pair_snd (show sp_X8_pairs M a0 = (sp_X1_fondTogether (sp_X1_settle M), sp_X1_settle M) from (by unfold sp_X8_pairs; exact ((if_neg c1).trans (if_pos c4)))))
    · refine r_aload_n (pc := 11) hG dX8_pairs_11 rfl ?_
      refine gf_X8_live (pc := 12)  hG dX8_pairs_12 tw_355 ?_
      refine r_iload_n (pc := 15) hG dX8_pairs_15 rfl ?_
      refine cv_X5_hasWindow (pc := 16) (by omega) hG dX8_pairs_16 tw_669 (c_X5_hasWindow (by omega)) (by decide) (Nat.le_of_ble_eq_true rfl) ?_
      refine r_ifz_ne (pc := 19) (tgt := 29) hG dX8_pairs_19 (by decide) (fun c6 => ?_) (fun c6 => ?_)
      · refine r_aload_n (pc := 29) hG dX8_pairs_29 rfl ?_
        refine gf_X8_pairing (pc := 30)  hG dX8_pairs_30 tw_358 ?_
        refine r_aload_n (pc := 33) hG dX8_pairs_33 rfl ?_
        refine gf_X8_live (pc := 34)  hG dX8_pairs_34 tw_355 ?_
        refine cv_X1_settle (pc := 37)  hG dX8_pairs_37 tw_823 (c_X1_settle hok0 hoa3) (by decide) (Nat.le_of_ble_eq_true rfl) ?_
        refine r_iload_n (pc := 40) hG dX8_pairs_40 rfl ?_
        refine r_iconst (pc := 41) hG dX8_pairs_41 ic_m1 ?_
        refine r_icmp_ne (pc := 42) (tgt := 53) hG dX8_pairs_42 (by decide) (fun c7 => ?_) (fun c7 => ?_)
        · refine r_iload_n (pc := 53) hG dX8_pairs_53 rfl ?_
          refine r_bipush (pc := 54) hG dX8_pairs_54 bc_m2 ?_
          refine r_icmp_ne (pc := 56) (tgt := 69) hG dX8_pairs_56 (by decide) (fun c8 => ?_) (fun c8 => ?_)
          · refine r_aload_n (pc := 69) hG dX8_pairs_69 rfl ?_
            refine gf_X8_pairing (pc := 70)  hG dX8_pairs_70 tw_358 ?_
            refine gf_X1_partners (pc := 73)  hG dX8_pairs_73 tw_267 ?_
            refine r_iload_n (pc := 76) hG dX8_pairs_76 rfl ?_
            refine al_Prt (pc := 77)  hG dX8_pairs_77 (ix_bd (hasW hwc0 c6)) ?_
            exact hret _ _ _ _ dX8_pairs_78 (pair_fst (show sp_X8_pairs M a0 = ((sp_X1_settle M).2.1 5 (tn a0), sp_X1_settle M) from (by unfold sp_X8_pairs; exact ((if_neg c1).trans ((if_neg c4).trans (if_pos c6)))))) (pair_snd (show sp_X8_pairs M a0 = ((sp_X1_settle M).2.1 5 (tn a0), sp_X1_settle M) from (by unfold sp_X8_pairs; exact ((if_neg c1).trans ((if_neg c4).trans (if_pos c6))))))
          · exact absurd c8 c1
        · exact absurd c7 c4
      · refine r_aload_n (pc := 22) hG dX8_pairs_22 rfl ?_
        refine r_bipush (pc := 23) hG dX8_pairs_23 bc_m2 ?_
        refine cv_X8_refuse (pc := 25)  hG dX8_pairs_25 tw_390 (c_X8_refuse (bd_lit (n := 7) (by decide))) (by decide) (Nat.le_of_ble_eq_true rfl) ?_
        exact hret _ _ _ _ dX8_pairs_28 (pair_fst (show sp_X8_pairs M a0 = ((sp_X8_refuse M (-2)).1, (sp_X8_refuse M (-2)).2) from (by unfold sp_X8_pairs; exact ((if_neg c1).trans ((if_neg c4).trans (if_neg c6)))))) (pair_snd (show sp_X8_pairs M a0 = ((sp_X8_refuse M (-2)).1, (sp_X8_refuse M (-2)).2) from (by unfold sp_X8_pairs; exact ((if_neg c1).trans ((if_neg c4).trans (if_neg c6))))))

theorem OKs_throw2 {M : MT} {s : Nat} {a b c : Int32} (h : OKs M s) (ha8 : bd a 8) (ha : tn a < tn (M.1 s 0 0)) : OKs (sp_X5_throwRose M s a b c).2 s := OKs_throw h ha ha8

def sp_X5_carnival (M : MT) : Int32 × MT :=
  ((sp_X5_throwRose (sdN (sdN (sdN (u1 (sdN M 0) 0 3 0 ((sp_X5_draw M 0 11).1)) 0) 0) 0) 0 ((sp_X5_draw (u1 (sdN M 0) 0 3 0 ((sp_X5_draw M 0 11).1)) 0 (M.1 0 0 0)).1) ((sp_X5_draw (sdN (u1 (sdN M 0) 0 3 0 ((sp_X5_draw M 0 11).1)) 0) 0 10).1) ((sp_X5_draw (sdN (sdN (u1 (sdN M 0) 0 3 0 ((sp_X5_draw M 0 11).1)) 0) 0) 0 3).1)).1, sp_X5_passDay ((sp_X5_throwRose (sdN (sdN (sdN (u1 (sdN M 0) 0 3 0 ((sp_X5_draw M 0 11).1)) 0) 0) 0) 0 ((sp_X5_draw (u1 (sdN M 0) 0 3 0 ((sp_X5_draw M 0 11).1)) 0 (M.1 0 0 0)).1) ((sp_X5_draw (sdN (u1 (sdN M 0) 0 3 0 ((sp_X5_draw M 0 11).1)) 0) 0 10).1) ((sp_X5_draw (sdN (sdN (u1 (sdN M 0) 0 3 0 ((sp_X5_draw M 0 11).1)) 0) 0) 0 3).1)).2) 0)
set_option maxRecDepth 20000 in
theorem c_X5_carnival {K : KT} {M : MT}   (hok0 : OKs M 0) (hw0 : ¬ M.1 0 0 0 = 0) : CM K 6 yX5_carnival cX5_carnival 5 (some FieldType.int) [rf K (iS 0)] M (some (.int (sp_X5_carnival M).1)) (sp_X5_carnival M).2 := by
  refine CM.ofI (by decide) [some (rf K (iS 0)), none, none, none, none] rfl (Nat.le_of_ble_eq_true rfl) (Nat.le_of_ble_eq_true rfl) (fun G hG _ hret => ?_)
  obtain ⟨hwc0, hpc0, ⟨hcl0, hcm0⟩, hwi0, hda0, hle0, hk80, ha80, hW0, hP0⟩ := id hok0
  have hwl0 := bd_lt hwc0
  have hpl0 := bd_lt hpc0
  have hcl0l := bd_lt hcl0
  refine r_aload_n (pc := 0) hG dX5_carnival_0 rfl ?_
  refine r_aload_n (pc := 1) hG dX5_carnival_1 rfl ?_
  refine r_bipush (pc := 2) hG dX5_carnival_2 bc_11 ?_
  refine cv_X5_draw (pc := 4) (by omega) hG dX5_carnival_4 tw_1133 (c_X5_drawm (by omega)) (by decide) (Nat.le_of_ble_eq_true rfl) ?_
  refine pf_X5_wind (pc := 7) (by omega) hG dX5_carnival_7 tw_181 ?_
  refine r_aload_n (pc := 10) hG dX5_carnival_10 rfl ?_
  refine r_aload_n (pc := 11) hG dX5_carnival_11 rfl ?_
  refine gf_X5_windowCount (pc := 12) (by omega) hG dX5_carnival_12 tw_169 ?_
  refine cv_X5_draw (pc := 15) (by omega) hG dX5_carnival_15 tw_1133 (c_X5_drawm (by omega)) (by decide) (Nat.le_of_ble_eq_true rfl) ?_
  refine r_istore_n (pc := 18) (ls' := [_, _, _, _, _]) hG dX5_carnival_18 rfl rfl ?_
  refine r_aload_n (pc := 19) hG dX5_carnival_19 rfl ?_
  refine r_bipush (pc := 20) hG dX5_carnival_20 bc_10 ?_
  refine cv_X5_draw (pc := 22) (by omega) hG dX5_carnival_22 tw_1133 (c_X5_drawm (by omega)) (by decide) (Nat.le_of_ble_eq_true rfl) ?_
  refine r_istore_n (pc := 25) (ls' := [_, _, _, _, _]) hG dX5_carnival_25 rfl rfl ?_
  refine r_aload_n (pc := 26) hG dX5_carnival_26 rfl ?_
  refine r_iconst (pc := 27) hG dX5_carnival_27 ic_3 ?_
  refine cv_X5_draw (pc := 28) (by omega) hG dX5_carnival_28 tw_1133 (c_X5_drawm (by omega)) (by decide) (Nat.le_of_ble_eq_true rfl) ?_
  refine r_istore_n (pc := 31) (ls' := [_, _, _, _, _]) hG dX5_carnival_31 rfl rfl ?_
  refine r_aload_n (pc := 32) hG dX5_carnival_32 rfl ?_
  refine r_iload_n (pc := 33) hG dX5_carnival_33 rfl ?_
  refine r_iload_n (pc := 34) hG dX5_carnival_34 rfl ?_
  refine r_iload_n (pc := 35) hG dX5_carnival_35 rfl ?_
  refine cv_X5_throwRose (pc := 36) (by omega) hG dX5_carnival_36 tw_1138 (c_X5_throwRose (by omega) (draw_bd (n := 8) hwc0 hw0).1 (OKs_sd (OKs_sd (OKs_sd (OKs_wind (OKs_sd hok0) (draw_bd (n := 11) (bd_lit (by decide)) (by decide)).1))))) (by decide) (Nat.le_of_ble_eq_true rfl) ?_
  refine r_istore (pc := 39) (ls' := [_, _, _, _, _]) hG dX5_carnival_39 rfl rfl ?_
  refine r_aload_n (pc := 41) hG dX5_carnival_41 rfl ?_
  refine cv_X5_passDay (pc := 42) (by omega) hG dX5_carnival_42 tw_1139 (c_X5_passDay (by omega) (OKs_throw2 (OKs_sd (OKs_sd (OKs_sd (OKs_wind (OKs_sd hok0) (draw_bd (n := 11) (bd_lit (by decide)) (by decide)).1)))) (draw_bd (n := 8) hwc0 hw0).1 (draw_bd (n := 8) hwc0 hw0).2)) (by decide) (Nat.le_of_ble_eq_true rfl) ?_
  refine r_iload (pc := 45) hG dX5_carnival_45 rfl ?_
  exact hret _ _ _ _ dX5_carnival_47 (pair_fst (show sp_X5_carnival M = ((sp_X5_throwRose (sdN (sdN (sdN (u1 (sdN M 0) 0 3 0 ((sp_X5_draw M 0 11).1)) 0) 0) 0) 0 ((sp_X5_draw (u1 (sdN M 0) 0 3 0 ((sp_X5_draw M 0 11).1)) 0 (M.1 0 0 0)).1) ((sp_X5_draw (sdN (u1 (sdN M 0) 0 3 0 ((sp_X5_draw M 0 11).1)) 0) 0 10).1) ((sp_X5_draw (sdN (sdN (u1 (sdN M 0) 0 3 0 ((sp_X5_draw M 0 11).1)) 0) 0) 0 3).1)).1, sp_X5_passDay ((sp_X5_throwRose (sdN (sdN (sdN (u1 (sdN M 0) 0 3 0 ((sp_X5_draw M 0 11).1)) 0) 0) 0) 0 ((sp_X5_draw (u1 (sdN M 0) 0 3 0 ((sp_X5_draw M 0 11).1)) 0 (M.1 0 0 0)).1) ((sp_X5_draw (sdN (u1 (sdN M 0) 0 3 0 ((sp_X5_draw M 0 11).1)) 0) 0 10).1) ((sp_X5_draw (sdN (sdN (u1 (sdN M 0) 0 3 0 ((sp_X5_draw M 0 11).1)) 0) 0) 0 3).1)).2) 0) from (by unfold sp_X5_carnival; exact rfl))) (pair_snd (show sp_X5_carnival M = ((sp_X5_throwRose (sdN (sdN (sdN (u1 (sdN M 0) 0 3 0 ((sp_X5_draw M 0 11).1)) 0) 0) 0) 0 ((sp_X5_draw (u1 (sdN M 0) 0 3 0 ((sp_X5_draw M 0 11).1)) 0 (M.1 0 0 0)).1) ((sp_X5_draw (sdN (u1 (sdN M 0) 0 3 0 ((sp_X5_draw M 0 11).1)) 0) 0 10).1) ((sp_X5_draw (sdN (sdN (u1 (sdN M 0) 0 3 0 ((sp_X5_draw M 0 11).1)) 0) 0) 0 3).1)).1, sp_X5_passDay ((sp_X5_throwRose (sdN (sdN (sdN (u1 (sdN M 0) 0 3 0 ((sp_X5_draw M 0 11).1)) 0) 0) 0) 0 ((sp_X5_draw (u1 (sdN M 0) 0 3 0 ((sp_X5_draw M 0 11).1)) 0 (M.1 0 0 0)).1) ((sp_X5_draw (sdN (u1 (sdN M 0) 0 3 0 ((sp_X5_draw M 0 11).1)) 0) 0 10).1) ((sp_X5_draw (sdN (sdN (u1 (sdN M 0) 0 3 0 ((sp_X5_draw M 0 11).1)) 0) 0) 0 3).1)).2) 0) from (by unfold sp_X5_carnival; exact rfl)))
