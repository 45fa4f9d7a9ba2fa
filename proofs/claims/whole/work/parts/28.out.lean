def sdN (M : MT) (s : Nat) : MT := u1 M s 5 0 (((M.1 s 5 0) * 1103515245) + 12345)
theorem c_X5_drawm {K : KT} {M : MT} {s : Nat} {a0 : Int32} (hs : s < 5) : CM K 1 yX5_draw cX5_draw 2 (some FieldType.int) [rf K (iS s), .int a0] M (some (.int (sp_X5_draw M s a0).1)) (sdN M s) := by
  have h := c_X5_draw (K := K) (M := M) (a0 := a0) hs
  rw [draw_mem] at h
  exact h
theorem OKs_sd {M : MT} {s : Nat} (h : OKs M s) : OKs (sdN M s) s := OKs_other (Or.inr rfl) h
def wndN (M : MT) (n : Nat) : MT := itN n (fun k m => u1 m 2 3 0 (nI k)) M

def st_X0_cellsAstray_4 (M : MT) (a0 : Int32) (i : Nat) (b4 : Int32 × MT) : Int32 × MT :=
  (b4.1 ||| (sp_X5_openCells (u1 b4.2 2 3 0 (nI i)) 2 a0), u1 b4.2 2 3 0 (nI i))
def sp_X0_cellsAstray (M : MT) (a0 : Int32) : Int32 × MT :=
  ((itN 11 (st_X0_cellsAstray_4 M a0) (0, M)).1, (itN 11 (st_X0_cellsAstray_4 M a0) (0, M)).2)
set_option maxRecDepth 20000 in
theorem c_X0_cellsAstray {K : KT} {M : MT} {a0 : Int32}  (ha0b : bd (a0) 8) : CM K 5 yX0_cellsAstray cX0_cellsAstray 4 (some FieldType.int) [rf K 3, .int a0] M (some (.int (sp_X0_cellsAstray M a0).1)) (sp_X0_cellsAstray M a0).2 := by
  refine CM.ofI (by decide) [some (rf K 3), some (.int a0), none, none] rfl (Nat.le_of_ble_eq_true rfl) (Nat.le_of_ble_eq_true rfl) (fun G hG _ hret => ?_)
  refine r_iconst (pc := 0) hG dX0_cellsAstray_0 ic_0 ?_
  refine r_istore_n (pc := 1) (ls' := [_, _, _, _]) hG dX0_cellsAstray_1 rfl rfl ?_
  refine r_iconst (pc := 2) hG dX0_cellsAstray_2 ic_0 ?_
  refine r_istore_n (pc := 3) (ls' := [_, _, _, _]) hG dX0_cellsAstray_3 rfl rfl ?_
  have lp4 : ∀ i, i ≤ 11 → ∀ b4 : Int32 × MT, b4 = itN i (st_X0_cellsAstray_4 M a0) (0, M) → J G K b4.2 4 [some (rf K 3), some (.int a0), some (.int b4.1), some (.int (nI i))] [] := by
    refine up_ind 11 (fun i hi4 ih4 => ?_)
    intro b4 hg4
    refine r_iload_n (pc := 4) hG dX0_cellsAstray_4 rfl ?_
    refine r_bipush (pc := 5) hG dX0_cellsAstray_5 bc_10 ?_
    refine r_icmp_gt (pc := 7) (tgt := 35) hG dX0_cellsAstray_7 (by decide) (fun c1 => ?_) (fun c1 => ?_)
    · have e4 : i = 11 := by have := (lt_nI (k := 10) (i := i) (Nat.le_of_ble_eq_true rfl) (by omega)).mp c1; omega
      subst hg4
      subst e4
      refine r_iload_n (pc := 35) hG dX0_cellsAstray_35 rfl ?_
      exact hret _ _ _ _ dX0_cellsAstray_36 (pair_fst (show sp_X0_cellsAstray M a0 = ((itN 11 (st_X0_cellsAstray_4 M a0) (0, M)).1, (itN 11 (st_X0_cellsAstray_4 M a0) (0, M)).2) from (by unfold sp_X0_cellsAstray; exact rfl))) (pair_snd (show sp_X0_cellsAstray M a0 = ((itN 11 (st_X0_cellsAstray_4 M a0) (0, M)).1, (itN 11 (st_X0_cellsAstray_4 M a0) (0, M)).2) from (by unfold sp_X0_cellsAstray; exact rfl)))
    · have hl4 : i < 11 := by have := mt (lt_nI (k := 10) (i := i) (Nat.le_of_ble_eq_true rfl) (by omega)).mpr c1; omega
      refine r_aload_n (pc := 10) hG dX0_cellsAstray_10 rfl ?_
      refine gf_X0_draft (pc := 11)  hG dX0_cellsAstray_11 tw_224 ?_
      refine r_iload_n (pc := 14) hG dX0_cellsAstray_14 rfl ?_
      refine pf_X5_wind (pc := 15) (by omega) hG dX0_cellsAstray_15 tw_182 ?_
      refine r_iload_n (pc := 18) hG dX0_cellsAstray_18 rfl ?_
      refine r_aload_n (pc := 19) hG dX0_cellsAstray_19 rfl ?_
      refine gf_X0_draft (pc := 20)  hG dX0_cellsAstray_20 tw_224 ?_
      refine r_iload_n (pc := 23) hG dX0_cellsAstray_23 rfl ?_
      refine cv_X5_openCells (pc := 24) (by omega) hG dX0_cellsAstray_24 tw_785 (c_X5_openCells (by omega) ha0b) (by decide) (Nat.le_of_ble_eq_true rfl) ?_
      refine r_ior (pc := 27) hG dX0_cellsAstray_27 ?_
      refine r_istore_n (pc := 28) (ls' := [_, _, _, _]) hG dX0_cellsAstray_28 rfl rfl ?_
      refine r_iinc (pc := 29) (v := nI (i + 1)) (ls' := [_, _, _, _]) hG dX0_cellsAstray_29 rfl (nI_1 _) rfl rfl ?_
      refine r_goto (pc := 32) (tgt := 4) hG dX0_cellsAstray_32 (by decide) ?_
      have eN4 : (b4.1 ||| (sp_X5_openCells (u1 b4.2 2 3 0 (nI i)) 2 a0), u1 b4.2 2 3 0 (nI i)) = st_X0_cellsAstray_4 M a0 i (itN i (st_X0_cellsAstray_4 M a0) (0, M)) := by rw [← hg4]; unfold st_X0_cellsAstray_4; exact Eq.symm rfl
      refine J.wk (ls' := [some (rf K 3), some (.int a0), some (.int (b4.1 ||| (sp_X5_openCells (u1 b4.2 2 3 0 (nI i)) 2 a0))), some (.int (nI (i + 1)))]) ?_ (Eq.refl 4) (wk_s rfl (wk_s rfl (wk_s rfl (wk_s rfl wk_0))))
      exact ih4 hl4 (b4.1 ||| (sp_X5_openCells (u1 b4.2 2 3 0 (nI i)) 2 a0), u1 b4.2 2 3 0 (nI i)) eN4
  exact (lp4 0 (Nat.zero_le _) _ rfl).wk (Eq.refl 4) (wk_s rfl (wk_s rfl (wk_s rfl (wk_s rfl wk_0))))

def st_X0_countWinds_6 (M : MT) (a0 : Int32) (a1 : Int32) (a2 : Int32) (a3 : Int32) (i : Nat) (b6 : Int32 × MT) : Int32 × MT :=
  if (sp_X5_catcherOf (u1 b6.2 2 3 0 (nI i)) 2 a1 a2 a3) = a0 then
    (b6.1 + 1, u1 b6.2 2 3 0 (nI i))
  else
    (b6.1, u1 b6.2 2 3 0 (nI i))
def sp_X0_countWinds (M : MT) (a0 : Int32) (a1 : Int32) (a2 : Int32) (a3 : Int32) : Int32 × MT :=
  ((itN 11 (st_X0_countWinds_6 M a0 a1 a2 a3) (0, M)).1, (itN 11 (st_X0_countWinds_6 M a0 a1 a2 a3) (0, M)).2)
set_option maxRecDepth 20000 in
theorem c_X0_countWinds {K : KT} {M : MT} {a0 : Int32} {a1 : Int32} {a2 : Int32} {a3 : Int32}  (ha1b : bd (a1) 8) (hok2 : OKs M 2) : CM K 5 yX0_countWinds cX0_countWinds 7 (some FieldType.int) [rf K 3, .int a0, .int a1, .int a2, .int a3] M (some (.int (sp_X0_countWinds M a0 a1 a2 a3).1)) (sp_X0_countWinds M a0 a1 a2 a3).2 := by
  refine CM.ofI (by decide) [some (rf K 3), some (.int a0), some (.int a1), some (.int a2), some (.int a3), none, none] rfl (Nat.le_of_ble_eq_true rfl) (Nat.le_of_ble_eq_true rfl) (fun G hG _ hret => ?_)
  obtain ⟨hwc2, hpc2, ⟨hcl2, hcm2⟩, hwi2, hda2, hle2, hk82, ha82, hW2, hP2⟩ := id hok2
  have hwl2 := bd_lt hwc2
  have hpl2 := bd_lt hpc2
  have hcl2l := bd_lt hcl2
  refine r_iconst (pc := 0) hG dX0_countWinds_0 ic_0 ?_
  refine r_istore (pc := 1) (ls' := [_, _, _, _, _, _, _]) hG dX0_countWinds_1 rfl rfl ?_
  refine r_iconst (pc := 3) hG dX0_countWinds_3 ic_0 ?_
  refine r_istore (pc := 4) (ls' := [_, _, _, _, _, _, _]) hG dX0_countWinds_4 rfl rfl ?_
  have lp6 : ∀ i, i ≤ 11 → ∀ b6 : Int32 × MT, b6 = itN i (st_X0_countWinds_6 M a0 a1 a2 a3) (0, M) → J G K b6.2 6 [some (rf K 3), some (.int a0), some (.int a1), some (.int a2), some (.int a3), some (.int b6.1), some (.int (nI i))] [] := by
    refine up_ind 11 (fun i hi6 ih6 => ?_)
    intro b6 hg6
    have hok6 : OKs b6.2 2 := by subst hg6; exact itN_inv (fun x : Int32 × MT => OKs x.2 2) i hok2 (fun k m hk hm => by unfold st_X0_countWinds_6; (repeat' split) <;> exact OKs_wind hm (bd_nI (by omega) (Nat.le_of_ble_eq_true rfl)))
    refine r_iload (pc := 6) hG dX0_countWinds_6 rfl ?_
    refine r_bipush (pc := 8) hG dX0_countWinds_8 bc_10 ?_
    refine r_icmp_gt (pc := 10) (tgt := 46) hG dX0_countWinds_10 (by decide) (fun c1 => ?_) (fun c1 => ?_)
    · have e6 : i = 11 := by have := (lt_nI (k := 10) (i := i) (Nat.le_of_ble_eq_true rfl) (by omega)).mp c1; omega
      subst hg6
      subst e6
      refine r_iload (pc := 46) hG dX0_countWinds_46 rfl ?_
      exact hret _ _ _ _ dX0_countWinds_48 (pair_fst (show sp_X0_countWinds M a0 a1 a2 a3 = ((itN 11 (st_X0_countWinds_6 M a0 a1 a2 a3) (0, M)).1, (itN 11 (st_X0_countWinds_6 M a0 a1 a2 a3) (0, M)).2) from (by unfold sp_X0_countWinds; exact rfl))) (pair_snd (show sp_X0_countWinds M a0 a1 a2 a3 = ((itN 11 (st_X0_countWinds_6 M a0 a1 a2 a3) (0, M)).1, (itN 11 (st_X0_countWinds_6 M a0 a1 a2 a3) (0, M)).2) from (by unfold sp_X0_countWinds; exact rfl)))
    · have hl6 : i < 11 := by have := mt (lt_nI (k := 10) (i := i) (Nat.le_of_ble_eq_true rfl) (by omega)).mpr c1; omega
      refine r_aload_n (pc := 13) hG dX0_countWinds_13 rfl ?_
      refine gf_X0_draft (pc := 14)  hG dX0_countWinds_14 tw_224 ?_
      refine r_iload (pc := 17) hG dX0_countWinds_17 rfl ?_
      refine pf_X5_wind (pc := 19) (by omega) hG dX0_countWinds_19 tw_182 ?_
      refine r_aload_n (pc := 22) hG dX0_countWinds_22 rfl ?_
      refine gf_X0_draft (pc := 23)  hG dX0_countWinds_23 tw_224 ?_
      refine r_iload_n (pc := 26) hG dX0_countWinds_26 rfl ?_
      refine r_iload_n (pc := 27) hG dX0_countWinds_27 rfl ?_
      refine r_iload (pc := 28) hG dX0_countWinds_28 rfl ?_
      refine cv_X5_catcherOf (pc := 30) (by omega) hG dX0_countWinds_30 tw_910 (c_X5_catcherOf (by omega) ha1b (OKs_wind hok6 (bd_nI (by omega) (Nat.le_of_ble_eq_true rfl)))) (by decide) (Nat.le_of_ble_eq_true rfl) ?_
      refine r_iload_n (pc := 33) hG dX0_countWinds_33 rfl ?_
      refine r_icmp_ne (pc := 34) (tgt := 40) hG dX0_countWinds_34 (by decide) (fun c2 => ?_) (fun c2 => ?_)
      · refine r_iinc (pc := 40) (v := nI (i + 1)) (ls' := [_, _, _, _, _, _, _]) hG dX0_countWinds_40 rfl (nI_1 _) rfl rfl ?_
        refine r_goto (pc := 43) (tgt := 6) hG dX0_countWinds_43 (by decide) ?_
        have eN6 : (b6.1, u1 b6.2 2 3 0 (nI i)) = st_X0_countWinds_6 M a0 a1 a2 a3 i (itN i (st_X0_countWinds_6 M a0 a1 a2 a3) (0, M)) := by rw [← hg6]; unfold st_X0_countWinds_6; exact Eq.symm (if_neg c2)
        refine J.wk (ls' := [some (rf K 3), some (.int a0), some (.int a1), some (.int a2), some (.int a3), some (.int b6.1), some (.int (nI (i + 1)))]) ?_ (Eq.refl 7) (wk_s rfl (wk_s rfl (wk_s rfl (wk_s rfl (wk_s rfl (wk_s rfl (wk_s rfl wk_0)))))))
        exact ih6 hl6 (b6.1, u1 b6.2 2 3 0 (nI i)) eN6
      · refine r_iinc (pc := 37) (v := b6.1 + 1) (ls' := [_, _, _, _, _, _, _]) hG dX0_countWinds_37 rfl rfl rfl rfl ?_
        refine r_iinc (pc := 40) (v := nI (i + 1)) (ls' := [_, _, _, _, _, _, _]) hG dX0_countWinds_40 rfl (nI_1 _) rfl rfl ?_
        refine r_goto (pc := 43) (tgt := 6) hG dX0_countWinds_43 (by decide) ?_
        have eN6 : (b6.1 + 1, u1 b6.2 2 3 0 (nI i)) = st_X0_countWinds_6 M a0 a1 a2 a3 i (itN i (st_X0_countWinds_6 M a0 a1 a2 a3) (0, M)) := by rw [← hg6]; unfold st_X0_countWinds_6; exact Eq.symm (if_pos c2)
        refine J.wk (ls' := [some (rf K 3), some (.int a0), some (.int a1), some (.int a2), some (.int a3), some (.int (b6.1 + 1)), some (.int (nI (i + 1)))]) ?_ (Eq.refl 7) (wk_s rfl (wk_s rfl (wk_s rfl (wk_s rfl (wk_s rfl (wk_s rfl (wk_s rfl wk_0)))))))
        exact ih6 hl6 (b6.1 + 1, u1 b6.2 2 3 0 (nI i)) eN6
  exact (lp6 0 (Nat.zero_le _) _ rfl).wk (Eq.refl 7) (wk_s rfl (wk_s rfl (wk_s rfl (wk_s rfl (wk_s rfl (wk_s rfl (wk_s rfl wk_0)))))))

def ps_X0_leastWind_3 (M : MT) (a0 : Int32) (a1 : Int32) (a2 : Int32) (a3 : Int32) (i : Nat) : Bool :=
  if (sp_X5_catcherOf (u1 (wndN M i) 2 3 0 (nI i)) 2 a1 a2 a3) = a0 then
    true
  else
    false
def sp_X0_leastWind (M : MT) (a0 : Int32) (a1 : Int32) (a2 : Int32) (a3 : Int32) : Int32 × MT :=
  fndN (ps_X0_leastWind_3 M a0 a1 a2 a3) (fun i => (if (sp_X5_catcherOf (u1 (wndN M i) 2 3 0 (nI i)) 2 a1 a2 a3) = a0 then
  (nI i, u1 (wndN M i) 2 3 0 (nI i))
else
  ((-1), wndN M 11))) (((-1), wndN M 11)) 11 0
set_option maxRecDepth 20000 in
theorem c_X0_leastWind {K : KT} {M : MT} {a0 : Int32} {a1 : Int32} {a2 : Int32} {a3 : Int32}  (ha1b : bd (a1) 8) (hok2 : OKs M 2) : CM K 5 yX0_leastWind cX0_leastWind 6 (some FieldType.int) [rf K 3, .int a0, .int a1, .int a2, .int a3] M (some (.int (sp_X0_leastWind M a0 a1 a2 a3).1)) (sp_X0_leastWind M a0 a1 a2 a3).2 := by
  refine CM.ofI (by decide) [some (rf K 3), some (.int a0), some (.int a1), some (.int a2), some (.int a3), none] rfl (Nat.le_of_ble_eq_true rfl) (Nat.le_of_ble_eq_true rfl) (fun G hG _ hret => ?_)
  obtain ⟨hwc2, hpc2, ⟨hcl2, hcm2⟩, hwi2, hda2, hle2, hk82, ha82, hW2, hP2⟩ := id hok2
  have hwl2 := bd_lt hwc2
  have hpl2 := bd_lt hpc2
  have hcl2l := bd_lt hcl2
  refine r_iconst (pc := 0) hG dX0_leastWind_0 ic_0 ?_
  refine r_istore (pc := 1) (ls' := [_, _, _, _, _, _]) hG dX0_leastWind_1 rfl rfl ?_
  have lp3 : ∀ i, i ≤ 11 → (∀ k, k < i → ps_X0_leastWind_3 M a0 a1 a2 a3 k = false) → J G K (wndN M i) 3 [some (rf K 3), some (.int a0), some (.int a1), some (.int a2), some (.int a3), some (.int (nI i))] [] := by
    refine up_ind 11 (fun i hi3 ih3 => ?_)
    intro hp3
    have hok3 : OKs (wndN M i) 2 := itN_inv (fun x : MT => OKs x 2) i hok2 (fun k m hk hm => OKs_wind hm (bd_nI (by omega) (Nat.le_of_ble_eq_true rfl)))
    refine r_iload (pc := 3) hG dX0_leastWind_3 rfl ?_
    refine r_bipush (pc := 5) hG dX0_leastWind_5 bc_10 ?_
    refine r_icmp_gt (pc := 7) (tgt := 43) hG dX0_leastWind_7 (by decide) (fun c1 => ?_) (fun c1 => ?_)
    · have e3 : i = 11 := by have := (lt_nI (k := 10) (i := i) (Nat.le_of_ble_eq_true rfl) (by omega)).mp c1; omega
      subst e3
      refine r_iconst (pc := 43) hG dX0_leastWind_43 ic_m1 ?_
      exact hret _ _ _ _ dX0_leastWind_44 (pair_fst (show sp_X0_leastWind M a0 a1 a2 a3 = ((-1), wndN M 11) from (by unfold sp_X0_leastWind; exact (fndN_none 11 0 (fun k _ hk => hp3 k (by omega)))))) (pair_snd (show sp_X0_leastWind M a0 a1 a2 a3 = ((-1), wndN M 11) from (by unfold sp_X0_leastWind; exact (fndN_none 11 0 (fun k _ hk => hp3 k (by omega))))))
    · have hl3 : i < 11 := by have := mt (lt_nI (k := 10) (i := i) (Nat.le_of_ble_eq_true rfl) (by omega)).mpr c1; omega
      refine r_aload_n (pc := 10) hG dX0_leastWind_10 rfl ?_
      refine gf_X0_draft (pc := 11)  hG dX0_leastWind_11 tw_224 ?_
      refine r_iload (pc := 14) hG dX0_leastWind_14 rfl ?_
      refine pf_X5_wind (pc := 16) (by omega) hG dX0_leastWind_16 tw_182 ?_
      refine r_aload_n (pc := 19) hG dX0_leastWind_19 rfl ?_
      refine gf_X0_draft (pc := 20)  hG dX0_leastWind_20 tw_224 ?_
      refine r_iload_n (pc := 23) hG dX0_leastWind_23 rfl ?_
      refine r_iload_n (pc := 24) hG dX0_leastWind_24 rfl ?_
      refine r_iload (pc := 25) hG dX0_leastWind_25 rfl ?_
      refine cv_X5_catcherOf (pc := 27) (by omega) hG dX0_leastWind_27 tw_910 (c_X5_catcherOf (by omega) ha1b (OKs_wind hok3 (bd_nI (by omega) (Nat.le_of_ble_eq_true rfl)))) (by decide) (Nat.le_of_ble_eq_true rfl) ?_
      refine r_iload_n (pc := 30) hG dX0_leastWind_30 rfl ?_
      refine r_icmp_ne (pc := 31) (tgt := 37) hG dX0_leastWind_31 (by decide) (fun c2 => ?_) (fun c2 => ?_)
      · refine r_iinc (pc := 37) (v := nI (i + 1)) (ls' := [_, _, _, _, _, _]) hG dX0_leastWind_37 rfl (nI_1 _) rfl rfl ?_
        refine r_goto (pc := 40) (tgt := 3) hG dX0_leastWind_40 (by decide) ?_
        exact ((ih3 hl3 (fun k hk => (Nat.lt_or_eq_of_le (Nat.le_of_lt_succ hk)).elim (hp3 k) (fun q => by subst q; unfold ps_X0_leastWind_3; exact (if_neg c2)))).castM rfl).wk (Eq.refl 6) (wk_s rfl (wk_s rfl (wk_s rfl (wk_s rfl (wk_s rfl (wk_s rfl wk_0))))))
      · refine r_iload (pc := 34) hG dX0_leastWind_34 rfl ?_
        exact hret _ _ _ _ dX0_leastWind_36 (pair_fst (show sp_X0_leastWind M a0 a1 a2 a3 = (nI i, u1 (wndN M i) 2 3 0 (nI i)) from (by unfold sp_X0_leastWind; exact ((fndN_hit 11 0 i (Nat.zero_le _) (by omega) (by unfold ps_X0_leastWind_3; exact (if_pos c2)) (fun k _ hk => hp3 k hk)).trans (if_pos c2))))) (pair_snd (show sp_X0_leastWind M a0 a1 a2 a3 = (nI i, u1 (wndN M i) 2 3 0 (nI i)) from (by unfold sp_X0_leastWind; exact ((fndN_hit 11 0 i (Nat.zero_le _) (by omega) (by unfold ps_X0_leastWind_3; exact (if_pos c2)) (fun k _ hk => hp3 k hk)).trans (if_pos c2)))))
  exact (lp3 0 (Nat.zero_le _) (fun k hk => absurd hk (Nat.not_lt_zero k))).wk (Eq.refl 6) (wk_s rfl (wk_s rfl (wk_s rfl (wk_s rfl (wk_s rfl (wk_s rfl wk_0))))))

theorem OKs_cw {M : MT} {a b c d : Int32} (h : OKs M 2) : OKs (sp_X0_countWinds M a b c d).2 2 := by
  unfold sp_X0_countWinds
  exact itN_inv (fun x : Int32 × MT => OKs x.2 2) 11 h (fun k m hk hm => by unfold st_X0_countWinds_6; (repeat' split) <;> exact OKs_wind hm (bd_nI (by omega) (Nat.le_of_ble_eq_true rfl)))

def st_X0_safestThrow_8 (M : MT) (a0 : Int32) (a1 : Int32) (i : Nat) (b8 : Int32 × Int32 × MT) : Int32 × Int32 × MT :=
  if ((sp_X0_countWinds b8.2.2 a0 a1 ((nI i) / 3) (irm (nI i) 3)).1) ≤ b8.2.1 then
    (b8.1, b8.2.1, (sp_X0_countWinds b8.2.2 a0 a1 ((nI i) / 3) (irm (nI i) 3)).2)
  else
    ((10 * ((nI i) / 3)) + (irm (nI i) 3), (sp_X0_countWinds b8.2.2 a0 a1 ((nI i) / 3) (irm (nI i) 3)).1, (sp_X0_countWinds b8.2.2 a0 a1 ((nI i) / 3) (irm (nI i) 3)).2)
def sp_X0_safestThrow (M : MT) (a0 : Int32) (a1 : Int32) : Int32 × MT :=
  ((itN 30 (st_X0_safestThrow_8 M a0 a1) ((-1), 0, M)).1, (itN 30 (st_X0_safestThrow_8 M a0 a1) ((-1), 0, M)).2.2)
set_option maxRecDepth 20000 in
theorem c_X0_safestThrow {K : KT} {M : MT} {a0 : Int32} {a1 : Int32}  (ha1b : bd (a1) 8) (hok2 : OKs M 2) : CM K 6 yX0_safestThrow cX0_safestThrow 7 (some FieldType.int) [rf K 3, .int a0, .int a1] M (some (.int (sp_X0_safestThrow M a0 a1).1)) (sp_X0_safestThrow M a0 a1).2 := by
  refine CM.ofI (by decide) [some (rf K 3), some (.int a0), some (.int a1), none, none, none, none] rfl (Nat.le_of_ble_eq_true rfl) (Nat.le_of_ble_eq_true rfl) (fun G hG _ hret => ?_)
  obtain ⟨hwc2, hpc2, ⟨hcl2, hcm2⟩, hwi2, hda2, hle2, hk82, ha82, hW2, hP2⟩ := id hok2
  have hwl2 := bd_lt hwc2
  have hpl2 := bd_lt hpc2
  have hcl2l := bd_lt hcl2
  refine r_iconst (pc := 0) hG dX0_safestThrow_0 ic_m1 ?_
  refine r_istore_n (pc := 1) (ls' := [_, _, _, _, _, _, _]) hG dX0_safestThrow_1 rfl rfl ?_
  refine r_iconst (pc := 2) hG dX0_safestThrow_2 ic_0 ?_
  refine r_istore (pc := 3) (ls' := [_, _, _, _, _, _, _]) hG dX0_safestThrow_3 rfl rfl ?_
  refine r_iconst (pc := 5) hG dX0_safestThrow_5 ic_0 ?_
  refine r_istore (pc := 6) (ls' := [_, _, _, _, _, _, _]) hG dX0_safestThrow_6 rfl rfl ?_
  have lp8 : ∀ i, i ≤ 30 → ∀ b8 : Int32 × Int32 × MT, b8 = itN i (st_X0_safestThrow_8 M a0 a1) ((-1), 0, M) → J G K b8.2.2 8 [some (rf K 3), some (.int a0), some (.int a1), some (.int b8.1), some (.int b8.2.1), some (.int (nI i)), none] [] := by
    refine up_ind 30 (fun i hi8 ih8 => ?_)
    intro b8 hg8
    have hok8 : OKs b8.2.2 2 := by subst hg8; exact itN_inv (fun x : Int32 × Int32 × MT => OKs x.2.2 2) i hok2 (fun k m hk hm => by unfold st_X0_safestThrow_8; (repeat' split) <;> exact OKs_cw hm)
    refine r_iload (pc := 8) hG dX0_safestThrow_8 rfl ?_
    refine r_bipush (pc := 10) hG dX0_safestThrow_10 bc_30 ?_
    refine r_icmp_ge (pc := 12) (tgt := 61) hG dX0_safestThrow_12 (by decide) (fun c1 => ?_) (fun c1 => ?_)
    · have e8 : i = 30 := by have := (le_nI (k := 30) (i := i) (Nat.le_of_ble_eq_true rfl) (by omega)).mp c1; omega
      subst hg8
      subst e8
      refine r_iload_n (pc := 61) hG dX0_safestThrow_61 rfl ?_
      exact hret _ _ _ _ dX0_safestThrow_62 (pair_fst (show sp_X0_safestThrow M a0 a1 = ((itN 30 (st_X0_safestThrow_8 M a0 a1) ((-1), 0, M)).1, (itN 30 (st_X0_safestThrow_8 M a0 a1) ((-1), 0, M)).2.2) from (by unfold sp_X0_safestThrow; exact rfl))) (pair_snd (show sp_X0_safestThrow M a0 a1 = ((itN 30 (st_X0_safestThrow_8 M a0 a1) ((-1), 0, M)).1, (itN 30 (st_X0_safestThrow_8 M a0 a1) ((-1), 0, M)).2.2) from (by unfold sp_X0_safestThrow; exact rfl)))
    · have hl8 : i < 30 := by have := mt (le_nI (k := 30) (i := i) (Nat.le_of_ble_eq_true rfl) (by omega)).mpr c1; omega
      refine r_aload_n (pc := 15) hG dX0_safestThrow_15 rfl ?_
      refine r_iload_n (pc := 16) hG dX0_safestThrow_16 rfl ?_
      refine r_iload_n (pc := 17) hG dX0_safestThrow_17 rfl ?_
      refine r_iload (pc := 18) hG dX0_safestThrow_18 rfl ?_
      refine r_iconst (pc := 20) hG dX0_safestThrow_20 ic_3 ?_
      refine r_idiv (pc := 21) hG dX0_safestThrow_21 (by decide) ?_
      refine r_iload (pc := 22) hG dX0_safestThrow_22 rfl ?_
      refine r_iconst (pc := 24) hG dX0_safestThrow_24 ic_3 ?_
      refine r_irem (pc := 25) hG dX0_safestThrow_25 (by decide) ?_
      refine cv_X0_countWinds (pc := 26)  hG dX0_safestThrow_26 tw_920 (c_X0_countWinds ha1b hok8) (by decide) (Nat.le_of_ble_eq_true rfl) ?_
      refine r_istore (pc := 29) (ls' := [_, _, _, _, _, _, _]) hG dX0_safestThrow_29 rfl rfl ?_
      refine r_iload (pc := 31) hG dX0_safestThrow_31 rfl ?_
      refine r_iload (pc := 33) hG dX0_safestThrow_33 rfl ?_
      refine r_icmp_le (pc := 35) (tgt := 55) hG dX0_safestThrow_35 (by decide) (fun c2 => ?_) (fun c2 => ?_)
      · refine r_iinc (pc := 55) (v := nI (i + 1)) (ls' := [_, _, _, _, _, _, _]) hG dX0_safestThrow_55 rfl (nI_1 _) rfl rfl ?_
        refine r_goto (pc := 58) (tgt := 8) hG dX0_safestThrow_58 (by decide) ?_
        have eN8 : (b8.1, b8.2.1, (sp_X0_countWinds b8.2.2 a0 a1 ((nI i) / 3) (irm (nI i) 3)).2) = st_X0_safestThrow_8 M a0 a1 i (itN i (st_X0_safestThrow_8 M a0 a1) ((-1), 0, M)) := by rw [← hg8]; unfold st_X0_safestThrow_8; exact Eq.symm (if_pos c2)
        refine J.wk (ls' := [some (rf K 3), some (.int a0), some (.int a1), some (.int b8.1), some (.int b8.2.1), some (.int (nI (i + 1))), none]) ?_ (Eq.refl 7) (wk_s rfl (wk_s rfl (wk_s rfl (wk_s rfl (wk_s rfl (wk_s rfl (wk_n wk_0)))))))
        exact ih8 hl8 (b8.1, b8.2.1, (sp_X0_countWinds b8.2.2 a0 a1 ((nI i) / 3) (irm (nI i) 3)).2) eN8
      · refine r_iload (pc := 38) hG dX0_safestThrow_38 rfl ?_
        refine r_istore (pc := 40) (ls' := [_, _, _, _, _, _, _]) hG dX0_safestThrow_40 rfl rfl ?_
        refine r_bipush (pc := 42) hG dX0_safestThrow_42 bc_10 ?_
        refine r_iload (pc := 44) hG dX0_safestThrow_44 rfl ?_
        refine r_iconst (pc := 46) hG dX0_safestThrow_46 ic_3 ?_
        refine r_idiv (pc := 47) hG dX0_safestThrow_47 (by decide) ?_
        refine r_imul (pc := 48) hG dX0_safestThrow_48 ?_
        refine r_iload (pc := 49) hG dX0_safestThrow_49 rfl ?_
        refine r_iconst (pc := 51) hG dX0_safestThrow_51 ic_3 ?_
        refine r_irem (pc := 52) hG dX0_safestThrow_52 (by decide) ?_
        refine r_iadd (pc := 53) hG dX0_safestThrow_53 ?_
        refine r_istore_n (pc := 54) (ls' := [_, _, _, _, _, _, _]) hG dX0_safestThrow_54 rfl rfl ?_
        refine r_iinc (pc := 55) (v := nI (i + 1)) (ls' := [_, _, _, _, _, _, _]) hG dX0_safestThrow_55 rfl (nI_1 _) rfl rfl ?_
        refine r_goto (pc := 58) (tgt := 8) hG dX0_safestThrow_58 (by decide) ?_
        have eN8 : ((10 * ((nI i) / 3)) + (irm (nI i) 3), (sp_X0_countWinds b8.2.2 a0 a1 ((nI i) / 3) (irm (nI i) 3)).1, (sp_X0_countWinds b8.2.2 a0 a1 ((nI i) / 3) (irm (nI i) 3)).2) = st_X0_safestThrow_8 M a0 a1 i (itN i (st_X0_safestThrow_8 M a0 a1) ((-1), 0, M)) := by rw [← hg8]; unfold st_X0_safestThrow_8; exact Eq.symm (if_neg c2)
        refine J.wk (ls' := [some (rf K 3), some (.int a0), some (.int a1), some (.int ((10 * ((nI i) / 3)) + (irm (nI i) 3))), some (.int ((sp_X0_countWinds b8.2.2 a0 a1 ((nI i) / 3) (irm (nI i) 3)).1)), some (.int (nI (i + 1))), none]) ?_ (Eq.refl 7) (wk_s rfl (wk_s rfl (wk_s rfl (wk_s rfl (wk_s rfl (wk_s rfl (wk_n wk_0)))))))
        exact ih8 hl8 ((10 * ((nI i) / 3)) + (irm (nI i) 3), (sp_X0_countWinds b8.2.2 a0 a1 ((nI i) / 3) (irm (nI i) 3)).1, (sp_X0_countWinds b8.2.2 a0 a1 ((nI i) / 3) (irm (nI i) 3)).2) eN8
  exact (lp8 0 (Nat.zero_le _) _ rfl).wk (Eq.refl 7) (wk_s rfl (wk_s rfl (wk_s rfl (wk_s rfl (wk_s rfl (wk_s rfl (wk_n wk_0)))))))

def ps_X0_landsAsTold_2 (M : MT) (t0 : Nat) (a1 : Int32) (i : Nat) : Bool :=
  if (Int32.toInt64 (sp_X5_landing M 2 ((Int64.toInt32 (M.2.2 t0 (tn (2 * (nI i))))) / 100) (irm ((Int64.toInt32 (M.2.2 t0 (tn (2 * (nI i))))) / 10) 10) (irm (Int64.toInt32 (M.2.2 t0 (tn (2 * (nI i))))) 10))) = (M.2.2 t0 (tn ((2 * (nI i)) + 1))) then
    false
  else
    true
def sp_X0_landsAsTold (M : MT) (t0 : Nat) (a1 : Int32) : Bool :=
  fndN (ps_X0_landsAsTold_2 M t0 a1) (fun i => (if (Int32.toInt64 (sp_X5_landing M 2 ((Int64.toInt32 (M.2.2 t0 (tn (2 * (nI i))))) / 100) (irm ((Int64.toInt32 (M.2.2 t0 (tn (2 * (nI i))))) / 10) 10) (irm (Int64.toInt32 (M.2.2 t0 (tn (2 * (nI i))))) 10))) = (M.2.2 t0 (tn ((2 * (nI i)) + 1))) then
  true
else
  false)) (true) (tn a1) 0
set_option maxRecDepth 20000 in
theorem c_X0_landsAsTold {K : KT} {M : MT} {t0 : Nat} {a1 : Int32} (ht0 : t0 < 8) (ha1b : bd (a1) 21) (hrw : ∀ i, i < tn a1 → bd ((Int64.toInt32 (M.2.2 t0 (tn (2 * nI i)))) / 100) 8) : CM K 4 yX0_landsAsTold cX0_landsAsTold 6 (some FieldType.boolean) [rf K 3, rf K (iR t0), .int a1] M (some (.int (bz (sp_X0_landsAsTold M t0 a1)))) M := by
  refine CM.ofZ (by decide) [some (rf K 3), some (rf K (iR t0)), some (.int a1), none, none, none] rfl (Nat.le_of_ble_eq_true rfl) (Nat.le_of_ble_eq_true rfl) (fun G hG _ hret => ?_)
  refine r_iconst (pc := 0) hG dX0_landsAsTold_0 ic_0 ?_
  refine r_istore_n (pc := 1) (ls' := [_, _, _, _, _, _]) hG dX0_landsAsTold_1 rfl rfl ?_
  have hb2 : bd a1 21 := ha1b
  have hb2l := bd_lt hb2
  have lp2 : ∀ i, i ≤ (tn a1) → (∀ k, k < i → ps_X0_landsAsTold_2 M t0 a1 k = false) → J G K M 2 [some (rf K 3), some (rf K (iR t0)), some (.int a1), some (.int (nI i)), none, none] [] := by
    refine up_ind (tn a1) (fun i hi2 ih2 => ?_)
    intro hp2
    refine r_iload_n (pc := 2) hG dX0_landsAsTold_2 rfl ?_
    refine r_iload_n (pc := 3) hG dX0_landsAsTold_3 rfl ?_
    refine r_icmp_ge (pc := 4) (tgt := 70) hG dX0_landsAsTold_4 (by decide) (fun c1 => ?_) (fun c1 => ?_)
    · have e2 : i = (tn a1) := by have := (bd_le hb2 (by omega)).mp c1; omega
      subst e2
      refine r_iconst (pc := 70) hG dX0_landsAsTold_70 ic_1 ?_
      exact hret _ _ _ _ dX0_landsAsTold_71 (bz_t (by unfold sp_X0_landsAsTold; exact (fndN_none (tn a1) 0 (fun k _ hk => hp2 k (by omega))))) rfl
    · have hl2 : i < (tn a1) := by have := mt (bd_le hb2 (by omega)).mpr c1; omega
      refine r_aload_n (pc := 7) hG dX0_landsAsTold_7 rfl ?_
      refine gf_X3_elements (pc := 8) ht0 hG dX0_landsAsTold_8 tw_326 ?_
      refine r_iconst (pc := 11) hG dX0_landsAsTold_11 ic_2 ?_
      refine r_iload_n (pc := 12) hG dX0_landsAsTold_12 rfl ?_
      refine r_imul (pc := 13) hG dX0_landsAsTold_13 ?_
      refine al_Ele (pc := 14) ht0 hG dX0_landsAsTold_14 (ix_bd (two_bd (n := 20) (i := i) (by omega) (Nat.le_of_ble_eq_true rfl))) ?_
      refine r_l2i (pc := 15) hG dX0_landsAsTold_15 ?_
      refine r_istore (pc := 16) (ls' := [_, _, _, _, _, _]) hG dX0_landsAsTold_16 rfl rfl ?_
      refine r_aload_n (pc := 18) hG dX0_landsAsTold_18 rfl ?_
      refine gf_X0_draft (pc := 19)  hG dX0_landsAsTold_19 tw_224 ?_
      refine r_iload (pc := 22) hG dX0_landsAsTold_22 rfl ?_
      refine r_bipush (pc := 24) hG dX0_landsAsTold_24 bc_100 ?_
      refine r_idiv (pc := 26) hG dX0_landsAsTold_26 (by decide) ?_
      refine r_iload (pc := 27) hG dX0_landsAsTold_27 rfl ?_
      refine r_bipush (pc := 29) hG dX0_landsAsTold_29 bc_10 ?_
      refine r_idiv (pc := 31) hG dX0_landsAsTold_31 (by decide) ?_
      refine r_bipush (pc := 32) hG dX0_landsAsTold_32 bc_10 ?_
      refine r_irem (pc := 34) hG dX0_landsAsTold_34 (by decide) ?_
      refine r_iload (pc := 35) hG dX0_landsAsTold_35 rfl ?_
      refine r_bipush (pc := 37) hG dX0_landsAsTold_37 bc_10 ?_
      refine r_irem (pc := 39) hG dX0_landsAsTold_39 (by decide) ?_
      refine cv_X5_landing (pc := 40) (by omega) hG dX0_landsAsTold_40 tw_885 (c_X5_landing (by omega) (hrw i (by omega))) (by decide) (Nat.le_of_ble_eq_true rfl) ?_
      refine r_istore (pc := 43) (ls' := [_, _, _, _, _, _]) hG dX0_landsAsTold_43 rfl rfl ?_
      refine r_iload (pc := 45) hG dX0_landsAsTold_45 rfl ?_
      refine r_i2l (pc := 47) hG dX0_landsAsTold_47 ?_
      refine r_aload_n (pc := 48) hG dX0_landsAsTold_48 rfl ?_
      refine gf_X3_elements (pc := 49) ht0 hG dX0_landsAsTold_49 tw_326 ?_
      refine r_iconst (pc := 52) hG dX0_landsAsTold_52 ic_2 ?_
      refine r_iload_n (pc := 53) hG dX0_landsAsTold_53 rfl ?_
      refine r_imul (pc := 54) hG dX0_landsAsTold_54 ?_
      refine r_iconst (pc := 55) hG dX0_landsAsTold_55 ic_1 ?_
      refine r_iadd (pc := 56) hG dX0_landsAsTold_56 ?_
      refine al_Ele (pc := 57) ht0 hG dX0_landsAsTold_57 (ix_bd (two_bd1 (n := 20) (i := i) (by omega) (Nat.le_of_ble_eq_true rfl))) ?_
      refine r_lcmp (pc := 58) hG dX0_landsAsTold_58 ?_
      refine r_lc_eq (pc := 59) (tgt := 64) hG dX0_landsAsTold_59 (by decide) (fun c2 => ?_) (fun c2 => ?_)
      · refine r_iinc (pc := 64) (v := nI (i + 1)) (ls' := [_, _, _, _, _, _]) hG dX0_landsAsTold_64 rfl (nI_1 _) rfl rfl ?_
        refine r_goto (pc := 67) (tgt := 2) hG dX0_landsAsTold_67 (by decide) ?_
        exact (ih2 hl2 (fun k hk => (Nat.lt_or_eq_of_le (Nat.le_of_lt_succ hk)).elim (hp2 k) (fun q => by subst q; unfold ps_X0_landsAsTold_2; exact (if_pos c2)))).wk (Eq.refl 6) (wk_s rfl (wk_s rfl (wk_s rfl (wk_s rfl (wk_n (wk_n wk_0))))))
      · refine r_iconst (pc := 62) hG dX0_landsAsTold_62 ic_0 ?_
        exact hret _ _ _ _ dX0_landsAsTold_63 (bz_f (by unfold sp_X0_landsAsTold; exact ((fndN_hit (tn a1) 0 i (Nat.zero_le _) (by omega) (by unfold ps_X0_landsAsTold_2; exact (if_neg c2)) (fun k _ hk => hp2 k hk)).trans (if_neg c2)))) rfl
  exact (lp2 0 (Nat.zero_le _) (fun k hk => absurd hk (Nat.not_lt_zero k))).wk (Eq.refl 6) (wk_s rfl (wk_s rfl (wk_s rfl (wk_s rfl (wk_n (wk_n wk_0))))))

def st_X0_windsThatFit_5 (M : MT) (t0 : Nat) (a1 : Int32) (i5 : Nat) (b5 : Int32 × MT) : Int32 × MT :=
  if (sp_X0_landsAsTold (u1 b5.2 2 3 0 (nI i5)) t0 a1) = true then
    (b5.1 ||| (1 <<< ((nI i5) &&& 31)), u1 b5.2 2 3 0 (nI i5))
  else
    (b5.1, u1 b5.2 2 3 0 (nI i5))
def sp_X0_windsThatFit (M : MT) (t0 : Nat) (a1 : Int32) : Int32 × MT :=
  ((itN 11 (st_X0_windsThatFit_5 M t0 a1) (0, M)).1, (itN 11 (st_X0_windsThatFit_5 M t0 a1) (0, M)).2)
set_option maxRecDepth 20000 in
theorem c_X0_windsThatFit {K : KT} {M : MT} {t0 : Nat} {a1 : Int32} (ht0 : t0 < 8) (ha1b : bd (a1) 21) (hrw : ∀ i, i < tn a1 → bd ((Int64.toInt32 (M.2.2 t0 (tn (2 * nI i)))) / 100) 8) : CM K 5 yX0_windsThatFit cX0_windsThatFit 5 (some FieldType.int) [rf K 3, rf K (iR t0), .int a1] M (some (.int (sp_X0_windsThatFit M t0 a1).1)) (sp_X0_windsThatFit M t0 a1).2 := by
  refine CM.ofI (by decide) [some (rf K 3), some (rf K (iR t0)), some (.int a1), none, none] rfl (Nat.le_of_ble_eq_true rfl) (Nat.le_of_ble_eq_true rfl) (fun G hG _ hret => ?_)
  refine r_iconst (pc := 0) hG dX0_windsThatFit_0 ic_0 ?_
  refine r_istore_n (pc := 1) (ls' := [_, _, _, _, _]) hG dX0_windsThatFit_1 rfl rfl ?_
  refine r_iconst (pc := 2) hG dX0_windsThatFit_2 ic_0 ?_
  refine r_istore (pc := 3) (ls' := [_, _, _, _, _]) hG dX0_windsThatFit_3 rfl rfl ?_
  have lp5 : ∀ i5, i5 ≤ 11 → ∀ b5 : Int32 × MT, b5 = itN i5 (st_X0_windsThatFit_5 M t0 a1) (0, M) → J G K b5.2 5 [some (rf K 3), some (rf K (iR t0)), some (.int a1), some (.int b5.1), some (.int (nI i5))] [] := by
    refine up_ind 11 (fun i5 hi5 ih5 => ?_)
    intro b5 hg5
    have hq5 : b5.2.2 = M.2 := by subst hg5; exact itN_inv (fun x : Int32 × MT => x.2.2 = M.2) i5 rfl (fun k m hk hm => by unfold st_X0_windsThatFit_5; (repeat' split) <;> exact hm)
    refine r_iload (pc := 5) hG dX0_windsThatFit_5 rfl ?_
    refine r_bipush (pc := 7) hG dX0_windsThatFit_7 bc_10 ?_
    refine r_icmp_gt (pc := 9) (tgt := 43) hG dX0_windsThatFit_9 (by decide) (fun c1 => ?_) (fun c1 => ?_)
    · have e5 : i5 = 11 := by have := (lt_nI (k := 10) (i := i5) (Nat.le_of_ble_eq_true rfl) (by omega)).mp c1; omega
      subst hg5
      subst e5
      refine r_iload_n (pc := 43) hG dX0_windsThatFit_43 rfl ?_
      exact hret _ _ _ _ dX0_windsThatFit_44 (pair_fst (show sp_X0_windsThatFit M t0 a1 = ((itN 11 (st_X0_windsThatFit_5 M t0 a1) (0, M)).1, (itN 11 (st_X0_windsThatFit_5 M t0 a1) (0, M)).2) from (by unfold sp_X0_windsThatFit; exact rfl))) (pair_snd (show sp_X0_windsThatFit M t0 a1 = ((itN 11 (st_X0_windsThatFit_5 M t0 a1) (0, M)).1, (itN 11 (st_X0_windsThatFit_5 M t0 a1) (0, M)).2) from (by unfold sp_X0_windsThatFit; exact rfl)))
    · have hl5 : i5 < 11 := by have := mt (lt_nI (k := 10) (i := i5) (Nat.le_of_ble_eq_true rfl) (by omega)).mpr c1; omega
      refine r_aload_n (pc := 12) hG dX0_windsThatFit_12 rfl ?_
      refine gf_X0_draft (pc := 13)  hG dX0_windsThatFit_13 tw_224 ?_
      refine r_iload (pc := 16) hG dX0_windsThatFit_16 rfl ?_
      refine pf_X5_wind (pc := 18) (by omega) hG dX0_windsThatFit_18 tw_182 ?_
      refine r_aload_n (pc := 21) hG dX0_windsThatFit_21 rfl ?_
      refine r_aload_n (pc := 22) hG dX0_windsThatFit_22 rfl ?_
      refine r_iload_n (pc := 23) hG dX0_windsThatFit_23 rfl ?_
      refine cv_X0_landsAsTold (pc := 24)  hG dX0_windsThatFit_24 tw_881 (c_X0_landsAsTold ht0 ha1b (by show ∀ i, i < tn a1 → bd ((Int64.toInt32 (b5.2.2.2 t0 (tn (2 * nI i)))) / 100) 8; rw [hq5]; exact hrw)) (by decide) (Nat.le_of_ble_eq_true rfl) ?_
      refine r_ifz_eq (pc := 27) (tgt := 37) hG dX0_windsThatFit_27 (by decide) (fun c2 => ?_) (fun c2 => ?_)
      · refine r_iinc (pc := 37) (v := nI (i5 + 1)) (ls' := [_, _, _, _, _]) hG dX0_windsThatFit_37 rfl (nI_1 _) rfl rfl ?_
        refine r_goto (pc := 40) (tgt := 5) hG dX0_windsThatFit_40 (by decide) ?_
        have eN5 : (b5.1, u1 b5.2 2 3 0 (nI i5)) = st_X0_windsThatFit_5 M t0 a1 i5 (itN i5 (st_X0_windsThatFit_5 M t0 a1) (0, M)) := by rw [← hg5]; unfold st_X0_windsThatFit_5; exact Eq.symm (if_neg c2)
        refine J.wk (ls' := [some (rf K 3), some (rf K (iR t0)), some (.int a1), some (.int b5.1), some (.int (nI (i5 + 1)))]) ?_ (Eq.refl 5) (wk_s rfl (wk_s rfl (wk_s rfl (wk_s rfl (wk_s rfl wk_0)))))
        exact ih5 hl5 (b5.1, u1 b5.2 2 3 0 (nI i5)) eN5
      · refine r_iload_n (pc := 30) hG dX0_windsThatFit_30 rfl ?_
        refine r_iconst (pc := 31) hG dX0_windsThatFit_31 ic_1 ?_
        refine r_iload (pc := 32) hG dX0_windsThatFit_32 rfl ?_
        refine r_ishl (pc := 34) hG dX0_windsThatFit_34 ?_
        refine r_ior (pc := 35) hG dX0_windsThatFit_35 ?_
        refine r_istore_n (pc := 36) (ls' := [_, _, _, _, _]) hG dX0_windsThatFit_36 rfl rfl ?_
        refine r_iinc (pc := 37) (v := nI (i5 + 1)) (ls' := [_, _, _, _, _]) hG dX0_windsThatFit_37 rfl (nI_1 _) rfl rfl ?_
        refine r_goto (pc := 40) (tgt := 5) hG dX0_windsThatFit_40 (by decide) ?_
        have eN5 : (b5.1 ||| (1 <<< ((nI i5) &&& 31)), u1 b5.2 2 3 0 (nI i5)) = st_X0_windsThatFit_5 M t0 a1 i5 (itN i5 (st_X0_windsThatFit_5 M t0 a1) (0, M)) := by rw [← hg5]; unfold st_X0_windsThatFit_5; exact Eq.symm (if_pos c2)
        refine J.wk (ls' := [some (rf K 3), some (rf K (iR t0)), some (.int a1), some (.int (b5.1 ||| (1 <<< ((nI i5) &&& 31)))), some (.int (nI (i5 + 1)))]) ?_ (Eq.refl 5) (wk_s rfl (wk_s rfl (wk_s rfl (wk_s rfl (wk_s rfl wk_0)))))
        exact ih5 hl5 (b5.1 ||| (1 <<< ((nI i5) &&& 31)), u1 b5.2 2 3 0 (nI i5)) eN5
  exact (lp5 0 (Nat.zero_le _) _ rfl).wk (Eq.refl 5) (wk_s rfl (wk_s rfl (wk_s rfl (wk_s rfl (wk_s rfl wk_0)))))

def st_X0_countOpenings_4 (M : MT) (a0 : Int32) (i : Nat) (b4 : Int32) : Int32 :=
  if ((M.2.1 3 i) &&& a0) = 0 then
    b4
  else
    b4 + 1
def sp_X0_countOpenings (M : MT) (a0 : Int32) : Int32 :=
  itN (tn (M.1 2 0 0)) (st_X0_countOpenings_4 M a0) 0
set_option maxRecDepth 20000 in
theorem c_X0_countOpenings {K : KT} {M : MT} {a0 : Int32}  (hwc : bd (M.1 2 0 0) 9) : CM K 1 yX0_countOpenings cX0_countOpenings 4 (some FieldType.int) [rf K 3, .int a0] M (some (.int (sp_X0_countOpenings M a0))) M := by
  refine CM.ofI (by decide) [some (rf K 3), some (.int a0), none, none] rfl (Nat.le_of_ble_eq_true rfl) (Nat.le_of_ble_eq_true rfl) (fun G hG _ hret => ?_)
  refine r_iconst (pc := 0) hG dX0_countOpenings_0 ic_0 ?_
  refine r_istore_n (pc := 1) (ls' := [_, _, _, _]) hG dX0_countOpenings_1 rfl rfl ?_
  refine r_iconst (pc := 2) hG dX0_countOpenings_2 ic_0 ?_
  refine r_istore_n (pc := 3) (ls' := [_, _, _, _]) hG dX0_countOpenings_3 rfl rfl ?_
  have hb4 : bd (M.1 2 0 0) 9 := hwc
  have hb4l := bd_lt hb4
  have lp4 : ∀ i, i ≤ (tn (M.1 2 0 0)) → ∀ b4 : Int32, b4 = itN i (st_X0_countOpenings_4 M a0) 0 → J G K M 4 [some (rf K 3), some (.int a0), some (.int b4), some (.int (nI i))] [] := by
    refine up_ind (tn (M.1 2 0 0)) (fun i hi4 ih4 => ?_)
    intro b4 hg4
    refine r_iload_n (pc := 4) hG dX0_countOpenings_4 rfl ?_
    refine r_aload_n (pc := 5) hG dX0_countOpenings_5 rfl ?_
    refine gf_X0_draft (pc := 6)  hG dX0_countOpenings_6 tw_224 ?_
    refine gf_X5_windowCount (pc := 9) (by omega) hG dX0_countOpenings_9 tw_171 ?_
    refine r_icmp_ge (pc := 12) (tgt := 35) hG dX0_countOpenings_12 (by decide) (fun c1 => ?_) (fun c1 => ?_)
    · have e4 : i = (tn (M.1 2 0 0)) := by have := (bd_le hb4 (by omega)).mp c1; omega
      subst hg4
      subst e4
      refine r_iload_n (pc := 35) hG dX0_countOpenings_35 rfl ?_
      exact hret _ _ _ _ dX0_countOpenings_36 (Eq.symm (by unfold sp_X0_countOpenings; exact rfl)) rfl
    · have hl4 : i < (tn (M.1 2 0 0)) := by have := mt (bd_le hb4 (by omega)).mpr c1; omega
      refine r_aload_n (pc := 15) hG dX0_countOpenings_15 rfl ?_
      refine gf_X0_openings (pc := 16)  hG dX0_countOpenings_16 tw_226 ?_
      refine r_iload_n (pc := 19) hG dX0_countOpenings_19 rfl ?_
      refine al_Opn (pc := 20)  hG dX0_countOpenings_20 (ix_nI (by omega) (Nat.le_of_ble_eq_true rfl)) ?_
      refine r_iload_n (pc := 21) hG dX0_countOpenings_21 rfl ?_
      refine r_iand (pc := 22) hG dX0_countOpenings_22 ?_
      refine r_if_eq (pc := 23) (tgt := 29) hG dX0_countOpenings_23 (by decide) (fun c2 => ?_) (fun c2 => ?_)
      · refine r_iinc (pc := 29) (v := nI (i + 1)) (ls' := [_, _, _, _]) hG dX0_countOpenings_29 rfl (nI_1 _) rfl rfl ?_
        refine r_goto (pc := 32) (tgt := 4) hG dX0_countOpenings_32 (by decide) ?_
        have eN4 : b4 = st_X0_countOpenings_4 M a0 i (itN i (st_X0_countOpenings_4 M a0) 0) := by rw [← hg4]; unfold st_X0_countOpenings_4; exact Eq.symm (if_pos c2)
        refine J.wk (ls' := [some (rf K 3), some (.int a0), some (.int b4), some (.int (nI (i + 1)))]) ?_ (Eq.refl 4) (wk_s rfl (wk_s rfl (wk_s rfl (wk_s rfl wk_0))))
        exact ih4 hl4 b4 eN4
      · refine r_iinc (pc := 26) (v := b4 + 1) (ls' := [_, _, _, _]) hG dX0_countOpenings_26 rfl rfl rfl rfl ?_
        refine r_iinc (pc := 29) (v := nI (i + 1)) (ls' := [_, _, _, _]) hG dX0_countOpenings_29 rfl (nI_1 _) rfl rfl ?_
        refine r_goto (pc := 32) (tgt := 4) hG dX0_countOpenings_32 (by decide) ?_
        have eN4 : b4 + 1 = st_X0_countOpenings_4 M a0 i (itN i (st_X0_countOpenings_4 M a0) 0) := by rw [← hg4]; unfold st_X0_countOpenings_4; exact Eq.symm (if_neg c2)
        refine J.wk (ls' := [some (rf K 3), some (.int a0), some (.int (b4 + 1)), some (.int (nI (i + 1)))]) ?_ (Eq.refl 4) (wk_s rfl (wk_s rfl (wk_s rfl (wk_s rfl wk_0))))
        exact ih4 hl4 (b4 + 1) eN4
  exact (lp4 0 (Nat.zero_le _) _ rfl).wk (Eq.refl 4) (wk_s rfl (wk_s rfl (wk_s rfl (wk_s rfl wk_0))))

def sp_X0_propose (M : MT) (a0 : Int32) (a1 : Int32) : MT :=
  if a1 ≤ (M.2.1 2 1) then
    M
  else
    (u2 (u2 M 2 0 a0) 2 1 a1)
set_option maxRecDepth 20000 in
theorem c_X0_propose {K : KT} {M : MT} {a0 : Int32} {a1 : Int32}   : CM K 1 yX0_propose cX0_propose 3 none [rf K 3, .int a0, .int a1] M none (sp_X0_propose M a0 a1) := by
  refine CM.ofV (by decide) [some (rf K 3), some (.int a0), some (.int a1)] rfl (Nat.le_of_ble_eq_true rfl) (Nat.le_of_ble_eq_true rfl) (fun G hG _ hret => ?_)
  refine r_iload_n (pc := 0) hG dX0_propose_0 rfl ?_
  refine r_aload_n (pc := 1) hG dX0_propose_1 rfl ?_
  refine gf_X0_bestCount (pc := 2)  hG dX0_propose_2 tw_229 ?_
  refine r_icmp_le (pc := 5) (tgt := 18) hG dX0_propose_5 (by decide) (fun c1 => ?_) (fun c1 => ?_)
  · exact hret _ _ _ dX0_propose_18 (Eq.symm (by unfold sp_X0_propose; exact (if_pos c1)))
  · refine r_aload_n (pc := 8) hG dX0_propose_8 rfl ?_
    refine r_iload_n (pc := 9) hG dX0_propose_9 rfl ?_
    refine pf_X0_bestCell (pc := 10)  hG dX0_propose_10 tw_227 ?_
    refine r_aload_n (pc := 13) hG dX0_propose_13 rfl ?_
    refine r_iload_n (pc := 14) hG dX0_propose_14 rfl ?_
    refine pf_X0_bestCount (pc := 15)  hG dX0_propose_15 tw_229 ?_
    exact hret _ _ _ dX0_propose_18 (Eq.symm (by unfold sp_X0_propose; exact (if_neg c1)))
