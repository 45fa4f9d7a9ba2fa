def st_X4_takeRow_28 (M : MT) (t : Nat) (a0 : Int32) (a1 : Int32) (i : Nat) (b28 : MT) : MT :=
  u3 b28 t i 0
def sp_X4_takeRow (M : MT) (t : Nat) (a0 : Int32) (a1 : Int32) : MT :=
  (itN (tn a1) (st_X4_takeRow_28 M t a0 a1) (u2 (u2 (u2 (u2 M 9 t 1) 10 t (-1)) 11 t a0) 12 t a1))
set_option maxRecDepth 20000 in
theorem c_X4_takeRow {K : KT} {M : MT} {t : Nat} {a0 : Int32} {a1 : Int32} (ht : t < 8) (ha1b : bd (a1) 41) : CM K 1 yX4_takeRow cX4_takeRow 4 none [rf K (iH t), .int a0, .int a1] M none (sp_X4_takeRow M t a0 a1) := by
  refine CM.ofV (by decide) [some (rf K (iH t)), some (.int a0), some (.int a1), none] rfl (Nat.le_of_ble_eq_true rfl) (Nat.le_of_ble_eq_true rfl) (fun G hG _ hret => ?_)
  refine r_aload_n (pc := 0) hG dX4_takeRow_0 rfl ?_
  refine r_iconst (pc := 1) hG dX4_takeRow_1 ic_1 ?_
  refine pf_X4_hasRow (pc := 2) (by decide) ht hG dX4_takeRow_2 tw_344 ?_
  refine r_aload_n (pc := 5) hG dX4_takeRow_5 rfl ?_
  refine r_iconst (pc := 6) hG dX4_takeRow_6 ic_m1 ?_
  refine pf_X4_person (pc := 7) ht hG dX4_takeRow_7 tw_346 ?_
  refine r_aload_n (pc := 10) hG dX4_takeRow_10 rfl ?_
  refine gf_X4_row (pc := 11) ht hG dX4_takeRow_11 tw_342 ?_
  refine r_iload_n (pc := 14) hG dX4_takeRow_14 rfl ?_
  refine pf_X3_sort (pc := 15) ht hG dX4_takeRow_15 tw_328 ?_
  refine r_aload_n (pc := 18) hG dX4_takeRow_18 rfl ?_
  refine gf_X4_row (pc := 19) ht hG dX4_takeRow_19 tw_342 ?_
  refine r_iload_n (pc := 22) hG dX4_takeRow_22 rfl ?_
  refine pf_X3_size (pc := 23) ht hG dX4_takeRow_23 tw_332 ?_
  refine r_iconst (pc := 26) hG dX4_takeRow_26 ic_0 ?_
  refine r_istore_n (pc := 27) (ls' := [_, _, _, _]) hG dX4_takeRow_27 rfl rfl ?_
  have hb28 : bd a1 41 := ha1b
  have hb28l := bd_lt hb28
  have lp28 : ∀ i, i ≤ (tn a1) → ∀ b28 : MT, b28 = itN i (st_X4_takeRow_28 M t a0 a1) (u2 (u2 (u2 (u2 M 9 t 1) 10 t (-1)) 11 t a0) 12 t a1) → J G K b28 28 [some (rf K (iH t)), some (.int a0), some (.int a1), some (.int (nI i))] [] := by
    refine up_ind (tn a1) (fun i hi28 ih28 => ?_)
    intro b28 hg28
    refine r_iload_n (pc := 28) hG dX4_takeRow_28 rfl ?_
    refine r_iload_n (pc := 29) hG dX4_takeRow_29 rfl ?_
    refine r_icmp_ge (pc := 30) (tgt := 49) hG dX4_takeRow_30 (by decide) (fun c1 => ?_) (fun c1 => ?_)
    · have e28 : i = (tn a1) := by have := (bd_le hb28 (by omega)).mp c1; omega
      subst hg28
      subst e28
      exact hret _ _ _ dX4_takeRow_49 (Eq.symm (by unfold sp_X4_takeRow; exact rfl))
    · have hl28 : i < (tn a1) := by have := mt (bd_le hb28 (by omega)).mpr c1; omega
      refine r_aload_n (pc := 33) hG dX4_takeRow_33 rfl ?_
      refine gf_X4_row (pc := 34) ht hG dX4_takeRow_34 tw_342 ?_
      refine gf_X3_elements (pc := 37) ht hG dX4_takeRow_37 tw_324 ?_
      refine r_iload_n (pc := 40) hG dX4_takeRow_40 rfl ?_
      refine r_lconst (pc := 41) (v := 0) hG dX4_takeRow_41 (by decide) ?_
      refine as_Ele (pc := 42) ht hG dX4_takeRow_42 (ix_nI (by omega) (Nat.le_of_ble_eq_true rfl)) ?_
      refine r_iinc (pc := 43) (v := nI (i + 1)) (ls' := [_, _, _, _]) hG dX4_takeRow_43 rfl (nI_1 _) rfl rfl ?_
      refine r_goto (pc := 46) (tgt := 28) hG dX4_takeRow_46 (by decide) ?_
      exact (ih28 hl28 (u3 b28 t i 0) (show u3 b28 t i 0 = st_X4_takeRow_28 M t a0 a1 i (itN i (st_X4_takeRow_28 M t a0 a1) (u2 (u2 (u2 (u2 M 9 t 1) 10 t (-1)) 11 t a0) 12 t a1)) from by rw [← hg28]; unfold st_X4_takeRow_28; exact Eq.symm rfl)).wk rfl (wk_s rfl (wk_s rfl (wk_s rfl (wk_s rfl wk_0))))
  exact (lp28 0 (Nat.zero_le _) _ rfl).wk rfl (wk_s rfl (wk_s rfl (wk_s rfl (wk_s rfl wk_0))))

def st_X5_copyFrom_97 (M : MT) (s : Nat) (s0 : Nat) (i : Nat) (b97 : MT) : MT :=
  sp_X2_copyFrom b97 s i s0 i
def st_X5_copyFrom_66 (M : MT) (s : Nat) (s0 : Nat) (i : Nat) (b66 : MT) : MT :=
  sp_X7_copyFrom b66 s i s0 i
def sp_X5_copyFrom (M : MT) (s : Nat) (s0 : Nat) : MT :=
  (itN (tn (M.1 s0 1 0)) (st_X5_copyFrom_97 M s s0) (itN (tn (M.1 s0 0 0)) (st_X5_copyFrom_66 M s s0) (u1 (u1 (u1 (u1 (u1 (u1 (u1 (u1 M s 0 0 (M.1 s0 0 0)) s 1 0 ((u1 M s 0 0 (M.1 s0 0 0)).1 s0 1 0)) s 2 0 ((u1 (u1 M s 0 0 (M.1 s0 0 0)) s 1 0 ((u1 M s 0 0 (M.1 s0 0 0)).1 s0 1 0)).1 s0 2 0)) s 3 0 ((u1 (u1 (u1 M s 0 0 (M.1 s0 0 0)) s 1 0 ((u1 M s 0 0 (M.1 s0 0 0)).1 s0 1 0)) s 2 0 ((u1 (u1 M s 0 0 (M.1 s0 0 0)) s 1 0 ((u1 M s 0 0 (M.1 s0 0 0)).1 s0 1 0)).1 s0 2 0)).1 s0 3 0)) s 3 1 ((u1 (u1 (u1 (u1 M s 0 0 (M.1 s0 0 0)) s 1 0 ((u1 M s 0 0 (M.1 s0 0 0)).1 s0 1 0)) s 2 0 ((u1 (u1 M s 0 0 (M.1 s0 0 0)) s 1 0 ((u1 M s 0 0 (M.1 s0 0 0)).1 s0 1 0)).1 s0 2 0)) s 3 0 ((u1 (u1 (u1 M s 0 0 (M.1 s0 0 0)) s 1 0 ((u1 M s 0 0 (M.1 s0 0 0)).1 s0 1 0)) s 2 0 ((u1 (u1 M s 0 0 (M.1 s0 0 0)) s 1 0 ((u1 M s 0 0 (M.1 s0 0 0)).1 s0 1 0)).1 s0 2 0)).1 s0 3 0)).1 s0 3 1)) s 3 2 ((u1 (u1 (u1 (u1 (u1 M s 0 0 (M.1 s0 0 0)) s 1 0 ((u1 M s 0 0 (M.1 s0 0 0)).1 s0 1 0)) s 2 0 ((u1 (u1 M s 0 0 (M.1 s0 0 0)) s 1 0 ((u1 M s 0 0 (M.1 s0 0 0)).1 s0 1 0)).1 s0 2 0)) s 3 0 ((u1 (u1 (u1 M s 0 0 (M.1 s0 0 0)) s 1 0 ((u1 M s 0 0 (M.1 s0 0 0)).1 s0 1 0)) s 2 0 ((u1 (u1 M s 0 0 (M.1 s0 0 0)) s 1 0 ((u1 M s 0 0 (M.1 s0 0 0)).1 s0 1 0)).1 s0 2 0)).1 s0 3 0)) s 3 1 ((u1 (u1 (u1 (u1 M s 0 0 (M.1 s0 0 0)) s 1 0 ((u1 M s 0 0 (M.1 s0 0 0)).1 s0 1 0)) s 2 0 ((u1 (u1 M s 0 0 (M.1 s0 0 0)) s 1 0 ((u1 M s 0 0 (M.1 s0 0 0)).1 s0 1 0)).1 s0 2 0)) s 3 0 ((u1 (u1 (u1 M s 0 0 (M.1 s0 0 0)) s 1 0 ((u1 M s 0 0 (M.1 s0 0 0)).1 s0 1 0)) s 2 0 ((u1 (u1 M s 0 0 (M.1 s0 0 0)) s 1 0 ((u1 M s 0 0 (M.1 s0 0 0)).1 s0 1 0)).1 s0 2 0)).1 s0 3 0)).1 s0 3 1)).1 s0 3 2)) s 4 0 ((u1 (u1 (u1 (u1 (u1 (u1 M s 0 0 (M.1 s0 0 0)) s 1 0 ((u1 M s 0 0 (M.1 s0 0 0)).1 s0 1 0)) s 2 0 ((u1 (u1 M s 0 0 (M.1 s0 0 0)) s 1 0 ((u1 M s 0 0 (M.1 s0 0 0)).1 s0 1 0)).1 s0 2 0)) s 3 0 ((u1 (u1 (u1 M s 0 0 (M.1 s0 0 0)) s 1 0 ((u1 M s 0 0 (M.1 s0 0 0)).1 s0 1 0)) s 2 0 ((u1 (u1 M s 0 0 (M.1 s0 0 0)) s 1 0 ((u1 M s 0 0 (M.1 s0 0 0)).1 s0 1 0)).1 s0 2 0)).1 s0 3 0)) s 3 1 ((u1 (u1 (u1 (u1 M s 0 0 (M.1 s0 0 0)) s 1 0 ((u1 M s 0 0 (M.1 s0 0 0)).1 s0 1 0)) s 2 0 ((u1 (u1 M s 0 0 (M.1 s0 0 0)) s 1 0 ((u1 M s 0 0 (M.1 s0 0 0)).1 s0 1 0)).1 s0 2 0)) s 3 0 ((u1 (u1 (u1 M s 0 0 (M.1 s0 0 0)) s 1 0 ((u1 M s 0 0 (M.1 s0 0 0)).1 s0 1 0)) s 2 0 ((u1 (u1 M s 0 0 (M.1 s0 0 0)) s 1 0 ((u1 M s 0 0 (M.1 s0 0 0)).1 s0 1 0)).1 s0 2 0)).1 s0 3 0)).1 s0 3 1)) s 3 2 ((u1 (u1 (u1 (u1 (u1 M s 0 0 (M.1 s0 0 0)) s 1 0 ((u1 M s 0 0 (M.1 s0 0 0)).1 s0 1 0)) s 2 0 ((u1 (u1 M s 0 0 (M.1 s0 0 0)) s 1 0 ((u1 M s 0 0 (M.1 s0 0 0)).1 s0 1 0)).1 s0 2 0)) s 3 0 ((u1 (u1 (u1 M s 0 0 (M.1 s0 0 0)) s 1 0 ((u1 M s 0 0 (M.1 s0 0 0)).1 s0 1 0)) s 2 0 ((u1 (u1 M s 0 0 (M.1 s0 0 0)) s 1 0 ((u1 M s 0 0 (M.1 s0 0 0)).1 s0 1 0)).1 s0 2 0)).1 s0 3 0)) s 3 1 ((u1 (u1 (u1 (u1 M s 0 0 (M.1 s0 0 0)) s 1 0 ((u1 M s 0 0 (M.1 s0 0 0)).1 s0 1 0)) s 2 0 ((u1 (u1 M s 0 0 (M.1 s0 0 0)) s 1 0 ((u1 M s 0 0 (M.1 s0 0 0)).1 s0 1 0)).1 s0 2 0)) s 3 0 ((u1 (u1 (u1 M s 0 0 (M.1 s0 0 0)) s 1 0 ((u1 M s 0 0 (M.1 s0 0 0)).1 s0 1 0)) s 2 0 ((u1 (u1 M s 0 0 (M.1 s0 0 0)) s 1 0 ((u1 M s 0 0 (M.1 s0 0 0)).1 s0 1 0)).1 s0 2 0)).1 s0 3 0)).1 s0 3 1)).1 s0 3 2)).1 s0 4 0)) s 5 0 ((u1 (u1 (u1 (u1 (u1 (u1 (u1 M s 0 0 (M.1 s0 0 0)) s 1 0 ((u1 M s 0 0 (M.1 s0 0 0)).1 s0 1 0)) s 2 0 ((u1 (u1 M s 0 0 (M.1 s0 0 0)) s 1 0 ((u1 M s 0 0 (M.1 s0 0 0)).1 s0 1 0)).1 s0 2 0)) s 3 0 ((u1 (u1 (u1 M s 0 0 (M.1 s0 0 0)) s 1 0 ((u1 M s 0 0 (M.1 s0 0 0)).1 s0 1 0)) s 2 0 ((u1 (u1 M s 0 0 (M.1 s0 0 0)) s 1 0 ((u1 M s 0 0 (M.1 s0 0 0)).1 s0 1 0)).1 s0 2 0)).1 s0 3 0)) s 3 1 ((u1 (u1 (u1 (u1 M s 0 0 (M.1 s0 0 0)) s 1 0 ((u1 M s 0 0 (M.1 s0 0 0)).1 s0 1 0)) s 2 0 ((u1 (u1 M s 0 0 (M.1 s0 0 0)) s 1 0 ((u1 M s 0 0 (M.1 s0 0 0)).1 s0 1 0)).1 s0 2 0)) s 3 0 ((u1 (u1 (u1 M s 0 0 (M.1 s0 0 0)) s 1 0 ((u1 M s 0 0 (M.1 s0 0 0)).1 s0 1 0)) s 2 0 ((u1 (u1 M s 0 0 (M.1 s0 0 0)) s 1 0 ((u1 M s 0 0 (M.1 s0 0 0)).1 s0 1 0)).1 s0 2 0)).1 s0 3 0)).1 s0 3 1)) s 3 2 ((u1 (u1 (u1 (u1 (u1 M s 0 0 (M.1 s0 0 0)) s 1 0 ((u1 M s 0 0 (M.1 s0 0 0)).1 s0 1 0)) s 2 0 ((u1 (u1 M s 0 0 (M.1 s0 0 0)) s 1 0 ((u1 M s 0 0 (M.1 s0 0 0)).1 s0 1 0)).1 s0 2 0)) s 3 0 ((u1 (u1 (u1 M s 0 0 (M.1 s0 0 0)) s 1 0 ((u1 M s 0 0 (M.1 s0 0 0)).1 s0 1 0)) s 2 0 ((u1 (u1 M s 0 0 (M.1 s0 0 0)) s 1 0 ((u1 M s 0 0 (M.1 s0 0 0)).1 s0 1 0)).1 s0 2 0)).1 s0 3 0)) s 3 1 ((u1 (u1 (u1 (u1 M s 0 0 (M.1 s0 0 0)) s 1 0 ((u1 M s 0 0 (M.1 s0 0 0)).1 s0 1 0)) s 2 0 ((u1 (u1 M s 0 0 (M.1 s0 0 0)) s 1 0 ((u1 M s 0 0 (M.1 s0 0 0)).1 s0 1 0)).1 s0 2 0)) s 3 0 ((u1 (u1 (u1 M s 0 0 (M.1 s0 0 0)) s 1 0 ((u1 M s 0 0 (M.1 s0 0 0)).1 s0 1 0)) s 2 0 ((u1 (u1 M s 0 0 (M.1 s0 0 0)) s 1 0 ((u1 M s 0 0 (M.1 s0 0 0)).1 s0 1 0)).1 s0 2 0)).1 s0 3 0)).1 s0 3 1)).1 s0 3 2)) s 4 0 ((u1 (u1 (u1 (u1 (u1 (u1 M s 0 0 (M.1 s0 0 0)) s 1 0 ((u1 M s 0 0 (M.1 s0 0 0)).1 s0 1 0)) s 2 0 ((u1 (u1 M s 0 0 (M.1 s0 0 0)) s 1 0 ((u1 M s 0 0 (M.1 s0 0 0)).1 s0 1 0)).1 s0 2 0)) s 3 0 ((u1 (u1 (u1 M s 0 0 (M.1 s0 0 0)) s 1 0 ((u1 M s 0 0 (M.1 s0 0 0)).1 s0 1 0)) s 2 0 ((u1 (u1 M s 0 0 (M.1 s0 0 0)) s 1 0 ((u1 M s 0 0 (M.1 s0 0 0)).1 s0 1 0)).1 s0 2 0)).1 s0 3 0)) s 3 1 ((u1 (u1 (u1 (u1 M s 0 0 (M.1 s0 0 0)) s 1 0 ((u1 M s 0 0 (M.1 s0 0 0)).1 s0 1 0)) s 2 0 ((u1 (u1 M s 0 0 (M.1 s0 0 0)) s 1 0 ((u1 M s 0 0 (M.1 s0 0 0)).1 s0 1 0)).1 s0 2 0)) s 3 0 ((u1 (u1 (u1 M s 0 0 (M.1 s0 0 0)) s 1 0 ((u1 M s 0 0 (M.1 s0 0 0)).1 s0 1 0)) s 2 0 ((u1 (u1 M s 0 0 (M.1 s0 0 0)) s 1 0 ((u1 M s 0 0 (M.1 s0 0 0)).1 s0 1 0)).1 s0 2 0)).1 s0 3 0)).1 s0 3 1)) s 3 2 ((u1 (u1 (u1 (u1 (u1 M s 0 0 (M.1 s0 0 0)) s 1 0 ((u1 M s 0 0 (M.1 s0 0 0)).1 s0 1 0)) s 2 0 ((u1 (u1 M s 0 0 (M.1 s0 0 0)) s 1 0 ((u1 M s 0 0 (M.1 s0 0 0)).1 s0 1 0)).1 s0 2 0)) s 3 0 ((u1 (u1 (u1 M s 0 0 (M.1 s0 0 0)) s 1 0 ((u1 M s 0 0 (M.1 s0 0 0)).1 s0 1 0)) s 2 0 ((u1 (u1 M s 0 0 (M.1 s0 0 0)) s 1 0 ((u1 M s 0 0 (M.1 s0 0 0)).1 s0 1 0)).1 s0 2 0)).1 s0 3 0)) s 3 1 ((u1 (u1 (u1 (u1 M s 0 0 (M.1 s0 0 0)) s 1 0 ((u1 M s 0 0 (M.1 s0 0 0)).1 s0 1 0)) s 2 0 ((u1 (u1 M s 0 0 (M.1 s0 0 0)) s 1 0 ((u1 M s 0 0 (M.1 s0 0 0)).1 s0 1 0)).1 s0 2 0)) s 3 0 ((u1 (u1 (u1 M s 0 0 (M.1 s0 0 0)) s 1 0 ((u1 M s 0 0 (M.1 s0 0 0)).1 s0 1 0)) s 2 0 ((u1 (u1 M s 0 0 (M.1 s0 0 0)) s 1 0 ((u1 M s 0 0 (M.1 s0 0 0)).1 s0 1 0)).1 s0 2 0)).1 s0 3 0)).1 s0 3 1)).1 s0 3 2)).1 s0 4 0)).1 s0 5 0))))
set_option maxRecDepth 20000 in
theorem c_X5_copyFrom {K : KT} {M : MT} {s : Nat} {s0 : Nat} (hs : s < 5) (hs0 : s0 < 5) (hoks0 : OKs M s0) : CM K 2 yX5_copyFrom cX5_copyFrom 3 none [rf K (iS s), rf K (iS s0)] M none (sp_X5_copyFrom M s s0) := by
  refine CM.ofV (by decide) [some (rf K (iS s)), some (rf K (iS s0)), none] rfl (Nat.le_of_ble_eq_true rfl) (Nat.le_of_ble_eq_true rfl) (fun G hG _ hret => ?_)
  obtain ⟨hwcs0, hpcs0, ⟨hcls0, hcms0⟩, hwis0, hdas0, hles0, hk8s0, ha8s0, hWs0, hPs0⟩ := id hoks0
  have hwls0 := bd_lt hwcs0
  have hpls0 := bd_lt hpcs0
  have hcls0l := bd_lt hcls0
  refine r_aload_n (pc := 0) hG dX5_copyFrom_0 rfl ?_
  refine r_aload_n (pc := 1) hG dX5_copyFrom_1 rfl ?_
  refine gf_X5_windowCount (pc := 2) hs0 hG dX5_copyFrom_2 tw_169 ?_
  refine pf_X5_windowCount (pc := 5) hs hG dX5_copyFrom_5 tw_169 ?_
  refine r_aload_n (pc := 8) hG dX5_copyFrom_8 rfl ?_
  refine r_aload_n (pc := 9) hG dX5_copyFrom_9 rfl ?_
  refine gf_X5_personCount (pc := 10) hs0 hG dX5_copyFrom_10 tw_173 ?_
  refine pf_X5_personCount (pc := 13) hs hG dX5_copyFrom_13 tw_173 ?_
  refine r_aload_n (pc := 16) hG dX5_copyFrom_16 rfl ?_
  refine r_aload_n (pc := 17) hG dX5_copyFrom_17 rfl ?_
  refine gf_X5_cells (pc := 18) hs0 hG dX5_copyFrom_18 tw_177 ?_
  refine pf_X5_cells (pc := 21) hs hG dX5_copyFrom_21 tw_177 ?_
  refine r_aload_n (pc := 24) hG dX5_copyFrom_24 rfl ?_
  refine r_aload_n (pc := 25) hG dX5_copyFrom_25 rfl ?_
  refine gf_X5_wind (pc := 26) hs0 hG dX5_copyFrom_26 tw_181 ?_
  refine pf_X5_wind (pc := 29) hs hG dX5_copyFrom_29 tw_181 ?_
  refine r_aload_n (pc := 32) hG dX5_copyFrom_32 rfl ?_
  refine r_aload_n (pc := 33) hG dX5_copyFrom_33 rfl ?_
  refine gf_X5_day (pc := 34) hs0 hG dX5_copyFrom_34 tw_185 ?_
  refine pf_X5_day (pc := 37) hs hG dX5_copyFrom_37 tw_185 ?_
  refine r_aload_n (pc := 40) hG dX5_copyFrom_40 rfl ?_
  refine r_aload_n (pc := 41) hG dX5_copyFrom_41 rfl ?_
  refine gf_X5_lent (pc := 42) hs0 hG dX5_copyFrom_42 tw_188 ?_
  refine pf_X5_lent (pc := 45) hs hG dX5_copyFrom_45 tw_188 ?_
  refine r_aload_n (pc := 48) hG dX5_copyFrom_48 rfl ?_
  refine r_aload_n (pc := 49) hG dX5_copyFrom_49 rfl ?_
  refine gf_X5_said (pc := 50) hs0 hG dX5_copyFrom_50 tw_191 ?_
  refine pf_X5_said (pc := 53) hs hG dX5_copyFrom_53 tw_191 ?_
  refine r_aload_n (pc := 56) hG dX5_copyFrom_56 rfl ?_
  refine r_aload_n (pc := 57) hG dX5_copyFrom_57 rfl ?_
  refine gf_X5_seed (pc := 58) hs0 hG dX5_copyFrom_58 tw_193 ?_
  refine pf_X5_seed (pc := 61) hs hG dX5_copyFrom_61 tw_193 ?_
  refine r_iconst (pc := 64) hG dX5_copyFrom_64 ic_0 ?_
  refine r_istore_n (pc := 65) (ls' := [_, _, _]) hG dX5_copyFrom_65 rfl rfl ?_
  have lp66 : ∀ i, i ≤ (tn (M.1 s0 0 0)) → ∀ b66 : MT, b66 = itN i (st_X5_copyFrom_66 M s s0) (u1 (u1 (u1 (u1 (u1 (u1 (u1 (u1 M s 0 0 (M.1 s0 0 0)) s 1 0 ((u1 M s 0 0 (M.1 s0 0 0)).1 s0 1 0)) s 2 0 ((u1 (u1 M s 0 0 (M.1 s0 0 0)) s 1 0 ((u1 M s 0 0 (M.1 s0 0 0)).1 s0 1 0)).1 s0 2 0)) s 3 0 ((u1 (u1 (u1 M s 0 0 (M.1 s0 0 0)) s 1 0 ((u1 M s 0 0 (M.1 s0 0 0)).1 s0 1 0)) s 2 0 ((u1 (u1 M s 0 0 (M.1 s0 0 0)) s 1 0 ((u1 M s 0 0 (M.1 s0 0 0)).1 s0 1 0)).1 s0 2 0)).1 s0 3 0)) s 3 1 ((u1 (u1 (u1 (u1 M s 0 0 (M.1 s0 0 0)) s 1 0 ((u1 M s 0 0 (M.1 s0 0 0)).1 s0 1 0)) s 2 0 ((u1 (u1 M s 0 0 (M.1 s0 0 0)) s 1 0 ((u1 M s 0 0 (M.1 s0 0 0)).1 s0 1 0)).1 s0 2 0)) s 3 0 ((u1 (u1 (u1 M s 0 0 (M.1 s0 0 0)) s 1 0 ((u1 M s 0 0 (M.1 s0 0 0)).1 s0 1 0)) s 2 0 ((u1 (u1 M s 0 0 (M.1 s0 0 0)) s 1 0 ((u1 M s 0 0 (M.1 s0 0 0)).1 s0 1 0)).1 s0 2 0)).1 s0 3 0)).1 s0 3 1)) s 3 2 ((u1 (u1 (u1 (u1 (u1 M s 0 0 (M.1 s0 0 0)) s 1 0 ((u1 M s 0 0 (M.1 s0 0 0)).1 s0 1 0)) s 2 0 ((u1 (u1 M s 0 0 (M.1 s0 0 0)) s 1 0 ((u1 M s 0 0 (M.1 s0 0 0)).1 s0 1 0)).1 s0 2 0)) s 3 0 ((u1 (u1 (u1 M s 0 0 (M.1 s0 0 0)) s 1 0 ((u1 M s 0 0 (M.1 s0 0 0)).1 s0 1 0)) s 2 0 ((u1 (u1 M s 0 0 (M.1 s0 0 0)) s 1 0 ((u1 M s 0 0 (M.1 s0 0 0)).1 s0 1 0)).1 s0 2 0)).1 s0 3 0)) s 3 1 ((u1 (u1 (u1 (u1 M s 0 0 (M.1 s0 0 0)) s 1 0 ((u1 M s 0 0 (M.1 s0 0 0)).1 s0 1 0)) s 2 0 ((u1 (u1 M s 0 0 (M.1 s0 0 0)) s 1 0 ((u1 M s 0 0 (M.1 s0 0 0)).1 s0 1 0)).1 s0 2 0)) s 3 0 ((u1 (u1 (u1 M s 0 0 (M.1 s0 0 0)) s 1 0 ((u1 M s 0 0 (M.1 s0 0 0)).1 s0 1 0)) s 2 0 ((u1 (u1 M s 0 0 (M.1 s0 0 0)) s 1 0 ((u1 M s 0 0 (M.1 s0 0 0)).1 s0 1 0)).1 s0 2 0)).1 s0 3 0)).1 s0 3 1)).1 s0 3 2)) s 4 0 ((u1 (u1 (u1 (u1 (u1 (u1 M s 0 0 (M.1 s0 0 0)) s 1 0 ((u1 M s 0 0 (M.1 s0 0 0)).1 s0 1 0)) s 2 0 ((u1 (u1 M s 0 0 (M.1 s0 0 0)) s 1 0 ((u1 M s 0 0 (M.1 s0 0 0)).1 s0 1 0)).1 s0 2 0)) s 3 0 ((u1 (u1 (u1 M s 0 0 (M.1 s0 0 0)) s 1 0 ((u1 M s 0 0 (M.1 s0 0 0)).1 s0 1 0)) s 2 0 ((u1 (u1 M s 0 0 (M.1 s0 0 0)) s 1 0 ((u1 M s 0 0 (M.1 s0 0 0)).1 s0 1 0)).1 s0 2 0)).1 s0 3 0)) s 3 1 ((u1 (u1 (u1 (u1 M s 0 0 (M.1 s0 0 0)) s 1 0 ((u1 M s 0 0 (M.1 s0 0 0)).1 s0 1 0)) s 2 0 ((u1 (u1 M s 0 0 (M.1 s0 0 0)) s 1 0 ((u1 M s 0 0 (M.1 s0 0 0)).1 s0 1 0)).1 s0 2 0)) s 3 0 ((u1 (u1 (u1 M s 0 0 (M.1 s0 0 0)) s 1 0 ((u1 M s 0 0 (M.1 s0 0 0)).1 s0 1 0)) s 2 0 ((u1 (u1 M s 0 0 (M.1 s0 0 0)) s 1 0 ((u1 M s 0 0 (M.1 s0 0 0)).1 s0 1 0)).1 s0 2 0)).1 s0 3 0)).1 s0 3 1)) s 3 2 ((u1 (u1 (u1 (u1 (u1 M s 0 0 (M.1 s0 0 0)) s 1 0 ((u1 M s 0 0 (M.1 s0 0 0)).1 s0 1 0)) s 2 0 ((u1 (u1 M s 0 0 (M.1 s0 0 0)) s 1 0 ((u1 M s 0 0 (M.1 s0 0 0)).1 s0 1 0)).1 s0 2 0)) s 3 0 ((u1 (u1 (u1 M s 0 0 (M.1 s0 0 0)) s 1 0 ((u1 M s 0 0 (M.1 s0 0 0)).1 s0 1 0)) s 2 0 ((u1 (u1 M s 0 0 (M.1 s0 0 0)) s 1 0 ((u1 M s 0 0 (M.1 s0 0 0)).1 s0 1 0)).1 s0 2 0)).1 s0 3 0)) s 3 1 ((u1 (u1 (u1 (u1 M s 0 0 (M.1 s0 0 0)) s 1 0 ((u1 M s 0 0 (M.1 s0 0 0)).1 s0 1 0)) s 2 0 ((u1 (u1 M s 0 0 (M.1 s0 0 0)) s 1 0 ((u1 M s 0 0 (M.1 s0 0 0)).1 s0 1 0)).1 s0 2 0)) s 3 0 ((u1 (u1 (u1 M s 0 0 (M.1 s0 0 0)) s 1 0 ((u1 M s 0 0 (M.1 s0 0 0)).1 s0 1 0)) s 2 0 ((u1 (u1 M s 0 0 (M.1 s0 0 0)) s 1 0 ((u1 M s 0 0 (M.1 s0 0 0)).1 s0 1 0)).1 s0 2 0)).1 s0 3 0)).1 s0 3 1)).1 s0 3 2)).1 s0 4 0)) s 5 0 ((u1 (u1 (u1 (u1 (u1 (u1 (u1 M s 0 0 (M.1 s0 0 0)) s 1 0 ((u1 M s 0 0 (M.1 s0 0 0)).1 s0 1 0)) s 2 0 ((u1 (u1 M s 0 0 (M.1 s0 0 0)) s 1 0 ((u1 M s 0 0 (M.1 s0 0 0)).1 s0 1 0)).1 s0 2 0)) s 3 0 ((u1 (u1 (u1 M s 0 0 (M.1 s0 0 0)) s 1 0 ((u1 M s 0 0 (M.1 s0 0 0)).1 s0 1 0)) s 2 0 ((u1 (u1 M s 0 0 (M.1 s0 0 0)) s 1 0 ((u1 M s 0 0 (M.1 s0 0 0)).1 s0 1 0)).1 s0 2 0)).1 s0 3 0)) s 3 1 ((u1 (u1 (u1 (u1 M s 0 0 (M.1 s0 0 0)) s 1 0 ((u1 M s 0 0 (M.1 s0 0 0)).1 s0 1 0)) s 2 0 ((u1 (u1 M s 0 0 (M.1 s0 0 0)) s 1 0 ((u1 M s 0 0 (M.1 s0 0 0)).1 s0 1 0)).1 s0 2 0)) s 3 0 ((u1 (u1 (u1 M s 0 0 (M.1 s0 0 0)) s 1 0 ((u1 M s 0 0 (M.1 s0 0 0)).1 s0 1 0)) s 2 0 ((u1 (u1 M s 0 0 (M.1 s0 0 0)) s 1 0 ((u1 M s 0 0 (M.1 s0 0 0)).1 s0 1 0)).1 s0 2 0)).1 s0 3 0)).1 s0 3 1)) s 3 2 ((u1 (u1 (u1 (u1 (u1 M s 0 0 (M.1 s0 0 0)) s 1 0 ((u1 M s 0 0 (M.1 s0 0 0)).1 s0 1 0)) s 2 0 ((u1 (u1 M s 0 0 (M.1 s0 0 0)) s 1 0 ((u1 M s 0 0 (M.1 s0 0 0)).1 s0 1 0)).1 s0 2 0)) s 3 0 ((u1 (u1 (u1 M s 0 0 (M.1 s0 0 0)) s 1 0 ((u1 M s 0 0 (M.1 s0 0 0)).1 s0 1 0)) s 2 0 ((u1 (u1 M s 0 0 (M.1 s0 0 0)) s 1 0 ((u1 M s 0 0 (M.1 s0 0 0)).1 s0 1 0)).1 s0 2 0)).1 s0 3 0)) s 3 1 ((u1 (u1 (u1 (u1 M s 0 0 (M.1 s0 0 0)) s 1 0 ((u1 M s 0 0 (M.1 s0 0 0)).1 s0 1 0)) s 2 0 ((u1 (u1 M s 0 0 (M.1 s0 0 0)) s 1 0 ((u1 M s 0 0 (M.1 s0 0 0)).1 s0 1 0)).1 s0 2 0)) s 3 0 ((u1 (u1 (u1 M s 0 0 (M.1 s0 0 0)) s 1 0 ((u1 M s 0 0 (M.1 s0 0 0)).1 s0 1 0)) s 2 0 ((u1 (u1 M s 0 0 (M.1 s0 0 0)) s 1 0 ((u1 M s 0 0 (M.1 s0 0 0)).1 s0 1 0)).1 s0 2 0)).1 s0 3 0)).1 s0 3 1)).1 s0 3 2)) s 4 0 ((u1 (u1 (u1 (u1 (u1 (u1 M s 0 0 (M.1 s0 0 0)) s 1 0 ((u1 M s 0 0 (M.1 s0 0 0)).1 s0 1 0)) s 2 0 ((u1 (u1 M s 0 0 (M.1 s0 0 0)) s 1 0 ((u1 M s 0 0 (M.1 s0 0 0)).1 s0 1 0)).1 s0 2 0)) s 3 0 ((u1 (u1 (u1 M s 0 0 (M.1 s0 0 0)) s 1 0 ((u1 M s 0 0 (M.1 s0 0 0)).1 s0 1 0)) s 2 0 ((u1 (u1 M s 0 0 (M.1 s0 0 0)) s 1 0 ((u1 M s 0 0 (M.1 s0 0 0)).1 s0 1 0)).1 s0 2 0)).1 s0 3 0)) s 3 1 ((u1 (u1 (u1 (u1 M s 0 0 (M.1 s0 0 0)) s 1 0 ((u1 M s 0 0 (M.1 s0 0 0)).1 s0 1 0)) s 2 0 ((u1 (u1 M s 0 0 (M.1 s0 0 0)) s 1 0 ((u1 M s 0 0 (M.1 s0 0 0)).1 s0 1 0)).1 s0 2 0)) s 3 0 ((u1 (u1 (u1 M s 0 0 (M.1 s0 0 0)) s 1 0 ((u1 M s 0 0 (M.1 s0 0 0)).1 s0 1 0)) s 2 0 ((u1 (u1 M s 0 0 (M.1 s0 0 0)) s 1 0 ((u1 M s 0 0 (M.1 s0 0 0)).1 s0 1 0)).1 s0 2 0)).1 s0 3 0)).1 s0 3 1)) s 3 2 ((u1 (u1 (u1 (u1 (u1 M s 0 0 (M.1 s0 0 0)) s 1 0 ((u1 M s 0 0 (M.1 s0 0 0)).1 s0 1 0)) s 2 0 ((u1 (u1 M s 0 0 (M.1 s0 0 0)) s 1 0 ((u1 M s 0 0 (M.1 s0 0 0)).1 s0 1 0)).1 s0 2 0)) s 3 0 ((u1 (u1 (u1 M s 0 0 (M.1 s0 0 0)) s 1 0 ((u1 M s 0 0 (M.1 s0 0 0)).1 s0 1 0)) s 2 0 ((u1 (u1 M s 0 0 (M.1 s0 0 0)) s 1 0 ((u1 M s 0 0 (M.1 s0 0 0)).1 s0 1 0)).1 s0 2 0)).1 s0 3 0)) s 3 1 ((u1 (u1 (u1 (u1 M s 0 0 (M.1 s0 0 0)) s 1 0 ((u1 M s 0 0 (M.1 s0 0 0)).1 s0 1 0)) s 2 0 ((u1 (u1 M s 0 0 (M.1 s0 0 0)) s 1 0 ((u1 M s 0 0 (M.1 s0 0 0)).1 s0 1 0)).1 s0 2 0)) s 3 0 ((u1 (u1 (u1 M s 0 0 (M.1 s0 0 0)) s 1 0 ((u1 M s 0 0 (M.1 s0 0 0)).1 s0 1 0)) s 2 0 ((u1 (u1 M s 0 0 (M.1 s0 0 0)) s 1 0 ((u1 M s 0 0 (M.1 s0 0 0)).1 s0 1 0)).1 s0 2 0)).1 s0 3 0)).1 s0 3 1)).1 s0 3 2)).1 s0 4 0)).1 s0 5 0)) → J G K b66 66 [some (rf K (iS s)), some (rf K (iS s0)), some (.int (nI i))] [] := by
    refine up_ind (tn (M.1 s0 0 0)) (fun i hi66 ih66 => ?_)
    intro b66 hg66
    have hq66 : b66.1 s 0 0 = M.1 s0 0 0 := by subst hg66; exact itN_inv (fun m : MT => m.1 s 0 0 = M.1 s0 0 0) i (by simp [u1]) (fun k m hk hm => by unfold st_X5_copyFrom_66; simp [sp_X7_copyFrom, u1, hm])
    refine r_iload_n (pc := 66) hG dX5_copyFrom_66 rfl ?_
    refine r_aload_n (pc := 67) hG dX5_copyFrom_67 rfl ?_
    refine gf_X5_windowCount (pc := 68) hs hG dX5_copyFrom_68 tw_169 ?_
    refine r_icmp_ge (pc := 71) (tgt := 95) hG dX5_copyFrom_71 (by decide) (fun c1 => ?_) (fun c1 => ?_)
    · have e66 : i = (tn (M.1 s0 0 0)) := by rw [hq66] at c1; have := (bd_le hwcs0 (by omega)).mp c1; omega
      subst hg66
      subst e66
      refine r_iconst (pc := 95) hG dX5_copyFrom_95 ic_0 ?_
      refine r_istore_n (pc := 96) (ls' := [_, _, _]) hG dX5_copyFrom_96 rfl rfl ?_
      have lp97 : ∀ i, i ≤ (tn (M.1 s0 1 0)) → ∀ b97 : MT, b97 = itN i (st_X5_copyFrom_97 M s s0) (itN (tn (M.1 s0 0 0)) (st_X5_copyFrom_66 M s s0) (u1 (u1 (u1 (u1 (u1 (u1 (u1 (u1 M s 0 0 (M.1 s0 0 0)) s 1 0 ((u1 M s 0 0 (M.1 s0 0 0)).1 s0 1 0)) s 2 0 ((u1 (u1 M s 0 0 (M.1 s0 0 0)) s 1 0 ((u1 M s 0 0 (M.1 s0 0 0)).1 s0 1 0)).1 s0 2 0)) s 3 0 ((u1 (u1 (u1 M s 0 0 (M.1 s0 0 0)) s 1 0 ((u1 M s 0 0 (M.1 s0 0 0)).1 s0 1 0)) s 2 0 ((u1 (u1 M s 0 0 (M.1 s0 0 0)) s 1 0 ((u1 M s 0 0 (M.1 s0 0 0)).1 s0 1 0)).1 s0 2 0)).1 s0 3 0)) s 3 1 ((u1 (u1 (u1 (u1 M s 0 0 (M.1 s0 0 0)) s 1 0 ((u1 M s 0 0 (M.1 s0 0 0)).1 s0 1 0)) s 2 0 ((u1 (u1 M s 0 0 (M.1 s0 0 0)) s 1 0 ((u1 M s 0 0 (M.1 s0 0 0)).1 s0 1 0)).1 s0 2 0)) s 3 0 ((u1 (u1 (u1 M s 0 0 (M.1 s0 0 0)) s 1 0 ((u1 M s 0 0 (M.1 s0 0 0)).1 s0 1 0)) s 2 0 ((u1 (u1 M s 0 0 (M.1 s0 0 0)) s 1 0 ((u1 M s 0 0 (M.1 s0 0 0)).1 s0 1 0)).1 s0 2 0)).1 s0 3 0)).1 s0 3 1)) s 3 2 ((u1 (u1 (u1 (u1 (u1 M s 0 0 (M.1 s0 0 0)) s 1 0 ((u1 M s 0 0 (M.1 s0 0 0)).1 s0 1 0)) s 2 0 ((u1 (u1 M s 0 0 (M.1 s0 0 0)) s 1 0 ((u1 M s 0 0 (M.1 s0 0 0)).1 s0 1 0)).1 s0 2 0)) s 3 0 ((u1 (u1 (u1 M s 0 0 (M.1 s0 0 0)) s 1 0 ((u1 M s 0 0 (M.1 s0 0 0)).1 s0 1 0)) s 2 0 ((u1 (u1 M s 0 0 (M.1 s0 0 0)) s 1 0 ((u1 M s 0 0 (M.1 s0 0 0)).1 s0 1 0)).1 s0 2 0)).1 s0 3 0)) s 3 1 ((u1 (u1 (u1 (u1 M s 0 0 (M.1 s0 0 0)) s 1 0 ((u1 M s 0 0 (M.1 s0 0 0)).1 s0 1 0)) s 2 0 ((u1 (u1 M s 0 0 (M.1 s0 0 0)) s 1 0 ((u1 M s 0 0 (M.1 s0 0 0)).1 s0 1 0)).1 s0 2 0)) s 3 0 ((u1 (u1 (u1 M s 0 0 (M.1 s0 0 0)) s 1 0 ((u1 M s 0 0 (M.1 s0 0 0)).1 s0 1 0)) s 2 0 ((u1 (u1 M s 0 0 (M.1 s0 0 0)) s 1 0 ((u1 M s 0 0 (M.1 s0 0 0)).1 s0 1 0)).1 s0 2 0)).1 s0 3 0)).1 s0 3 1)).1 s0 3 2)) s 4 0 ((u1 (u1 (u1 (u1 (u1 (u1 M s 0 0 (M.1 s0 0 0)) s 1 0 ((u1 M s 0 0 (M.1 s0 0 0)).1 s0 1 0)) s 2 0 ((u1 (u1 M s 0 0 (M.1 s0 0 0)) s 1 0 ((u1 M s 0 0 (M.1 s0 0 0)).1 s0 1 0)).1 s0 2 0)) s 3 0 ((u1 (u1 (u1 M s 0 0 (M.1 s0 0 0)) s 1 0 ((u1 M s 0 0 (M.1 s0 0 0)).1 s0 1 0)) s 2 0 ((u1 (u1 M s 0 0 (M.1 s0 0 0)) s 1 0 ((u1 M s 0 0 (M.1 s0 0 0)).1 s0 1 0)).1 s0 2 0)).1 s0 3 0)) s 3 1 ((u1 (u1 (u1 (u1 M s 0 0 (M.1 s0 0 0)) s 1 0 ((u1 M s 0 0 (M.1 s0 0 0)).1 s0 1 0)) s 2 0 ((u1 (u1 M s 0 0 (M.1 s0 0 0)) s 1 0 ((u1 M s 0 0 (M.1 s0 0 0)).1 s0 1 0)).1 s0 2 0)) s 3 0 ((u1 (u1 (u1 M s 0 0 (M.1 s0 0 0)) s 1 0 ((u1 M s 0 0 (M.1 s0 0 0)).1 s0 1 0)) s 2 0 ((u1 (u1 M s 0 0 (M.1 s0 0 0)) s 1 0 ((u1 M s 0 0 (M.1 s0 0 0)).1 s0 1 0)).1 s0 2 0)).1 s0 3 0)).1 s0 3 1)) s 3 2 ((u1 (u1 (u1 (u1 (u1 M s 0 0 (M.1 s0 0 0)) s 1 0 ((u1 M s 0 0 (M.1 s0 0 0)).1 s0 1 0)) s 2 0 ((u1 (u1 M s 0 0 (M.1 s0 0 0)) s 1 0 ((u1 M s 0 0 (M.1 s0 0 0)).1 s0 1 0)).1 s0 2 0)) s 3 0 ((u1 (u1 (u1 M s 0 0 (M.1 s0 0 0)) s 1 0 ((u1 M s 0 0 (M.1 s0 0 0)).1 s0 1 0)) s 2 0 ((u1 (u1 M s 0 0 (M.1 s0 0 0)) s 1 0 ((u1 M s 0 0 (M.1 s0 0 0)).1 s0 1 0)).1 s0 2 0)).1 s0 3 0)) s 3 1 ((u1 (u1 (u1 (u1 M s 0 0 (M.1 s0 0 0)) s 1 0 ((u1 M s 0 0 (M.1 s0 0 0)).1 s0 1 0)) s 2 0 ((u1 (u1 M s 0 0 (M.1 s0 0 0)) s 1 0 ((u1 M s 0 0 (M.1 s0 0 0)).1 s0 1 0)).1 s0 2 0)) s 3 0 ((u1 (u1 (u1 M s 0 0 (M.1 s0 0 0)) s 1 0 ((u1 M s 0 0 (M.1 s0 0 0)).1 s0 1 0)) s 2 0 ((u1 (u1 M s 0 0 (M.1 s0 0 0)) s 1 0 ((u1 M s 0 0 (M.1 s0 0 0)).1 s0 1 0)).1 s0 2 0)).1 s0 3 0)).1 s0 3 1)).1 s0 3 2)).1 s0 4 0)) s 5 0 ((u1 (u1 (u1 (u1 (u1 (u1 (u1 M s 0 0 (M.1 s0 0 0)) s 1 0 ((u1 M s 0 0 (M.1 s0 0 0)).1 s0 1 0)) s 2 0 ((u1 (u1 M s 0 0 (M.1 s0 0 0)) s 1 0 ((u1 M s 0 0 (M.1 s0 0 0)).1 s0 1 0)).1 s0 2 0)) s 3 0 ((u1 (u1 (u1 M s 0 0 (M.1 s0 0 0)) s 1 0 ((u1 M s 0 0 (M.1 s0 0 0)).1 s0 1 0)) s 2 0 ((u1 (u1 M s 0 0 (M.1 s0 0 0)) s 1 0 ((u1 M s 0 0 (M.1 s0 0 0)).1 s0 1 0)).1 s0 2 0)).1 s0 3 0)) s 3 1 ((u1 (u1 (u1 (u1 M s 0 0 (M.1 s0 0 0)) s 1 0 ((u1 M s 0 0 (M.1 s0 0 0)).1 s0 1 0)) s 2 0 ((u1 (u1 M s 0 0 (M.1 s0 0 0)) s 1 0 ((u1 M s 0 0 (M.1 s0 0 0)).1 s0 1 0)).1 s0 2 0)) s 3 0 ((u1 (u1 (u1 M s 0 0 (M.1 s0 0 0)) s 1 0 ((u1 M s 0 0 (M.1 s0 0 0)).1 s0 1 0)) s 2 0 ((u1 (u1 M s 0 0 (M.1 s0 0 0)) s 1 0 ((u1 M s 0 0 (M.1 s0 0 0)).1 s0 1 0)).1 s0 2 0)).1 s0 3 0)).1 s0 3 1)) s 3 2 ((u1 (u1 (u1 (u1 (u1 M s 0 0 (M.1 s0 0 0)) s 1 0 ((u1 M s 0 0 (M.1 s0 0 0)).1 s0 1 0)) s 2 0 ((u1 (u1 M s 0 0 (M.1 s0 0 0)) s 1 0 ((u1 M s 0 0 (M.1 s0 0 0)).1 s0 1 0)).1 s0 2 0)) s 3 0 ((u1 (u1 (u1 M s 0 0 (M.1 s0 0 0)) s 1 0 ((u1 M s 0 0 (M.1 s0 0 0)).1 s0 1 0)) s 2 0 ((u1 (u1 M s 0 0 (M.1 s0 0 0)) s 1 0 ((u1 M s 0 0 (M.1 s0 0 0)).1 s0 1 0)).1 s0 2 0)).1 s0 3 0)) s 3 1 ((u1 (u1 (u1 (u1 M s 0 0 (M.1 s0 0 0)) s 1 0 ((u1 M s 0 0 (M.1 s0 0 0)).1 s0 1 0)) s 2 0 ((u1 (u1 M s 0 0 (M.1 s0 0 0)) s 1 0 ((u1 M s 0 0 (M.1 s0 0 0)).1 s0 1 0)).1 s0 2 0)) s 3 0 ((u1 (u1 (u1 M s 0 0 (M.1 s0 0 0)) s 1 0 ((u1 M s 0 0 (M.1 s0 0 0)).1 s0 1 0)) s 2 0 ((u1 (u1 M s 0 0 (M.1 s0 0 0)) s 1 0 ((u1 M s 0 0 (M.1 s0 0 0)).1 s0 1 0)).1 s0 2 0)).1 s0 3 0)).1 s0 3 1)).1 s0 3 2)) s 4 0 ((u1 (u1 (u1 (u1 (u1 (u1 M s 0 0 (M.1 s0 0 0)) s 1 0 ((u1 M s 0 0 (M.1 s0 0 0)).1 s0 1 0)) s 2 0 ((u1 (u1 M s 0 0 (M.1 s0 0 0)) s 1 0 ((u1 M s 0 0 (M.1 s0 0 0)).1 s0 1 0)).1 s0 2 0)) s 3 0 ((u1 (u1 (u1 M s 0 0 (M.1 s0 0 0)) s 1 0 ((u1 M s 0 0 (M.1 s0 0 0)).1 s0 1 0)) s 2 0 ((u1 (u1 M s 0 0 (M.1 s0 0 0)) s 1 0 ((u1 M s 0 0 (M.1 s0 0 0)).1 s0 1 0)).1 s0 2 0)).1 s0 3 0)) s 3 1 ((u1 (u1 (u1 (u1 M s 0 0 (M.1 s0 0 0)) s 1 0 ((u1 M s 0 0 (M.1 s0 0 0)).1 s0 1 0)) s 2 0 ((u1 (u1 M s 0 0 (M.1 s0 0 0)) s 1 0 ((u1 M s 0 0 (M.1 s0 0 0)).1 s0 1 0)).1 s0 2 0)) s 3 0 ((u1 (u1 (u1 M s 0 0 (M.1 s0 0 0)) s 1 0 ((u1 M s 0 0 (M.1 s0 0 0)).1 s0 1 0)) s 2 0 ((u1 (u1 M s 0 0 (M.1 s0 0 0)) s 1 0 ((u1 M s 0 0 (M.1 s0 0 0)).1 s0 1 0)).1 s0 2 0)).1 s0 3 0)).1 s0 3 1)) s 3 2 ((u1 (u1 (u1 (u1 (u1 M s 0 0 (M.1 s0 0 0)) s 1 0 ((u1 M s 0 0 (M.1 s0 0 0)).1 s0 1 0)) s 2 0 ((u1 (u1 M s 0 0 (M.1 s0 0 0)) s 1 0 ((u1 M s 0 0 (M.1 s0 0 0)).1 s0 1 0)).1 s0 2 0)) s 3 0 ((u1 (u1 (u1 M s 0 0 (M.1 s0 0 0)) s 1 0 ((u1 M s 0 0 (M.1 s0 0 0)).1 s0 1 0)) s 2 0 ((u1 (u1 M s 0 0 (M.1 s0 0 0)) s 1 0 ((u1 M s 0 0 (M.1 s0 0 0)).1 s0 1 0)).1 s0 2 0)).1 s0 3 0)) s 3 1 ((u1 (u1 (u1 (u1 M s 0 0 (M.1 s0 0 0)) s 1 0 ((u1 M s 0 0 (M.1 s0 0 0)).1 s0 1 0)) s 2 0 ((u1 (u1 M s 0 0 (M.1 s0 0 0)) s 1 0 ((u1 M s 0 0 (M.1 s0 0 0)).1 s0 1 0)).1 s0 2 0)) s 3 0 ((u1 (u1 (u1 M s 0 0 (M.1 s0 0 0)) s 1 0 ((u1 M s 0 0 (M.1 s0 0 0)).1 s0 1 0)) s 2 0 ((u1 (u1 M s 0 0 (M.1 s0 0 0)) s 1 0 ((u1 M s 0 0 (M.1 s0 0 0)).1 s0 1 0)).1 s0 2 0)).1 s0 3 0)).1 s0 3 1)).1 s0 3 2)).1 s0 4 0)).1 s0 5 0))) → J G K b97 97 [some (rf K (iS s)), some (rf K (iS s0)), some (.int (nI i))] [] := by
        refine up_ind (tn (M.1 s0 1 0)) (fun i hi97 ih97 => ?_)
        intro b97 hg97
        have hq97 : b97.1 s 1 0 = M.1 s0 1 0 := by subst hg97; exact itN_inv (fun m : MT => m.1 s 1 0 = M.1 s0 1 0) i (itN_inv (fun m : MT => m.1 s 1 0 = M.1 s0 1 0) _ (by simp [u1]) (fun k m hk hm => by unfold st_X5_copyFrom_66; simp [sp_X7_copyFrom, u1, hm])) (fun k m hk hm => by unfold st_X5_copyFrom_97; simp [sp_X2_copyFrom, u1, hm])
        refine r_iload_n (pc := 97) hG dX5_copyFrom_97 rfl ?_
        refine r_aload_n (pc := 98) hG dX5_copyFrom_98 rfl ?_
        refine gf_X5_personCount (pc := 99) hs hG dX5_copyFrom_99 tw_173 ?_
        refine r_icmp_ge (pc := 102) (tgt := 126) hG dX5_copyFrom_102 (by decide) (fun c2 => ?_) (fun c2 => ?_)
        · have e97 : i = (tn (M.1 s0 1 0)) := by rw [hq97] at c2; have := (bd_le hpcs0 (by omega)).mp c2; omega
          subst hg97
          subst e97
          exact hret _ _ _ dX5_copyFrom_126 (Eq.symm (by unfold sp_X5_copyFrom; exact rfl))
        · have hl97 : i < (tn (M.1 s0 1 0)) := by rw [hq97] at c2; have := mt (bd_le hpcs0 (by omega)).mpr c2; omega
          refine r_aload_n (pc := 105) hG dX5_copyFrom_105 rfl ?_
          refine gf_X5_people (pc := 106) hs hG dX5_copyFrom_106 tw_164 ?_
          refine r_iload_n (pc := 109) hG dX5_copyFrom_109 rfl ?_
          refine aa_PA (pc := 110) hs hG dX5_copyFrom_110 (ix_nI (by omega) (Nat.le_of_ble_eq_true rfl)) ?_
          refine r_aload_n (pc := 111) hG dX5_copyFrom_111 rfl ?_
          refine gf_X5_people (pc := 112) hs0 hG dX5_copyFrom_112 tw_164 ?_
          refine r_iload_n (pc := 115) hG dX5_copyFrom_115 rfl ?_
          refine aa_PA (pc := 116) hs0 hG dX5_copyFrom_116 (ix_nI (by omega) (Nat.le_of_ble_eq_true rfl)) ?_
          refine cv_X2_copyFrom (pc := 117) hs (by omega) hG dX5_copyFrom_117 tw_537 (c_X2_copyFrom hs (by omega) hs0 (by omega)) (by decide) (Nat.le_of_ble_eq_true rfl) ?_
          refine r_iinc (pc := 120) (v := nI (i + 1)) (ls' := [_, _, _]) hG dX5_copyFrom_120 rfl (nI_1 _) rfl rfl ?_
          refine r_goto (pc := 123) (tgt := 97) hG dX5_copyFrom_123 (by decide) ?_
          exact (ih97 hl97 (sp_X2_copyFrom b97 s i s0 i) (show sp_X2_copyFrom b97 s i s0 i = st_X5_copyFrom_97 M s s0 i (itN i (st_X5_copyFrom_97 M s s0) (itN (tn (M.1 s0 0 0)) (st_X5_copyFrom_66 M s s0) (u1 (u1 (u1 (u1 (u1 (u1 (u1 (u1 M s 0 0 (M.1 s0 0 0)) s 1 0 ((u1 M s 0 0 (M.1 s0 0 0)).1 s0 1 0)) s 2 0 ((u1 (u1 M s 0 0 (M.1 s0 0 0)) s 1 0 ((u1 M s 0 0 (M.1 s0 0 0)).1 s0 1 0)).1 s0 2 0)) s 3 0 ((u1 (u1 (u1 M s 0 0 (M.1 s0 0 0)) s 1 0 ((u1 M s 0 0 (M.1 s0 0 0)).1 s0 1 0)) s 2 0 ((u1 (u1 M s 0 0 (M.1 s0 0 0)) s 1 0 ((u1 M s 0 0 (M.1 s0 0 0)).1 s0 1 0)).1 s0 2 0)).1 s0 3 0)) s 3 1 ((u1 (u1 (u1 (u1 M s 0 0 (M.1 s0 0 0)) s 1 0 ((u1 M s 0 0 (M.1 s0 0 0)).1 s0 1 0)) s 2 0 ((u1 (u1 M s 0 0 (M.1 s0 0 0)) s 1 0 ((u1 M s 0 0 (M.1 s0 0 0)).1 s0 1 0)).1 s0 2 0)) s 3 0 ((u1 (u1 (u1 M s 0 0 (M.1 s0 0 0)) s 1 0 ((u1 M s 0 0 (M.1 s0 0 0)).1 s0 1 0)) s 2 0 ((u1 (u1 M s 0 0 (M.1 s0 0 0)) s 1 0 ((u1 M s 0 0 (M.1 s0 0 0)).1 s0 1 0)).1 s0 2 0)).1 s0 3 0)).1 s0 3 1)) s 3 2 ((u1 (u1 (u1 (u1 (u1 M s 0 0 (M.1 s0 0 0)) s 1 0 ((u1 M s 0 0 (M.1 s0 0 0)).1 s0 1 0)) s 2 0 ((u1 (u1 M s 0 0 (M.1 s0 0 0)) s 1 0 ((u1 M s 0 0 (M.1 s0 0 0)).1 s0 1 0)).1 s0 2 0)) s 3 0 ((u1 (u1 (u1 M s 0 0 (M.1 s0 0 0)) s 1 0 ((u1 M s 0 0 (M.1 s0 0 0)).1 s0 1 0)) s 2 0 ((u1 (u1 M s 0 0 (M.1 s0 0 0)) s 1 0 ((u1 M s 0 0 (M.1 s0 0 0)).1 s0 1 0)).1 s0 2 0)).1 s0 3 0)) s 3 1 ((u1 (u1 (u1 (u1 M s 0 0 (M.1 s0 0 0)) s 1 0 ((u1 M s 0 0 (M.1 s0 0 0)).1 s0 1 0)) s 2 0 ((u1 (u1 M s 0 0 (M.1 s0 0 0)) s 1 0 ((u1 M s 0 0 (M.1 s0 0 0)).1 s0 1 0)).1 s0 2 0)) s 3 0 ((u1 (u1 (u1 M s 0 0 (M.1 s0 0 0)) s 1 0 ((u1 M s 0 0 (M.1 s0 0 0)).1 s0 1 0)) s 2 0 ((u1 (u1 M s 0 0 (M.1 s0 0 0)) s 1 0 ((u1 M s 0 0 (M.1 s0 0 0)).1 s0 1 0)).1 s0 2 0)).1 s0 3 0)).1 s0 3 1)).1 s0 3 2)) s 4 0 ((u1 (u1 (u1 (u1 (u1 (u1 M s 0 0 (M.1 s0 0 0)) s 1 0 ((u1 M s 0 0 (M.1 s0 0 0)).1 s0 1 0)) s 2 0 ((u1 (u1 M s 0 0 (M.1 s0 0 0)) s 1 0 ((u1 M s 0 0 (M.1 s0 0 0)).1 s0 1 0)).1 s0 2 0)) s 3 0 ((u1 (u1 (u1 M s 0 0 (M.1 s0 0 0)) s 1 0 ((u1 M s 0 0 (M.1 s0 0 0)).1 s0 1 0)) s 2 0 ((u1 (u1 M s 0 0 (M.1 s0 0 0)) s 1 0 ((u1 M s 0 0 (M.1 s0 0 0)).1 s0 1 0)).1 s0 2 0)).1 s0 3 0)) s 3 1 ((u1 (u1 (u1 (u1 M s 0 0 (M.1 s0 0 0)) s 1 0 ((u1 M s 0 0 (M.1 s0 0 0)).1 s0 1 0)) s 2 0 ((u1 (u1 M s 0 0 (M.1 s0 0 0)) s 1 0 ((u1 M s 0 0 (M.1 s0 0 0)).1 s0 1 0)).1 s0 2 0)) s 3 0 ((u1 (u1 (u1 M s 0 0 (M.1 s0 0 0)) s 1 0 ((u1 M s 0 0 (M.1 s0 0 0)).1 s0 1 0)) s 2 0 ((u1 (u1 M s 0 0 (M.1 s0 0 0)) s 1 0 ((u1 M s 0 0 (M.1 s0 0 0)).1 s0 1 0)).1 s0 2 0)).1 s0 3 0)).1 s0 3 1)) s 3 2 ((u1 (u1 (u1 (u1 (u1 M s 0 0 (M.1 s0 0 0)) s 1 0 ((u1 M s 0 0 (M.1 s0 0 0)).1 s0 1 0)) s 2 0 ((u1 (u1 M s 0 0 (M.1 s0 0 0)) s 1 0 ((u1 M s 0 0 (M.1 s0 0 0)).1 s0 1 0)).1 s0 2 0)) s 3 0 ((u1 (u1 (u1 M s 0 0 (M.1 s0 0 0)) s 1 0 ((u1 M s 0 0 (M.1 s0 0 0)).1 s0 1 0)) s 2 0 ((u1 (u1 M s 0 0 (M.1 s0 0 0)) s 1 0 ((u1 M s 0 0 (M.1 s0 0 0)).1 s0 1 0)).1 s0 2 0)).1 s0 3 0)) s 3 1 ((u1 (u1 (u1 (u1 M s 0 0 (M.1 s0 0 0)) s 1 0 ((u1 M s 0 0 (M.1 s0 0 0)).1 s0 1 0)) s 2 0 ((u1 (u1 M s 0 0 (M.1 s0 0 0)) s 1 0 ((u1 M s 0 0 (M.1 s0 0 0)).1 s0 1 0)).1 s0 2 0)) s 3 0 ((u1 (u1 (u1 M s 0 0 (M.1 s0 0 0)) s 1 0 ((u1 M s 0 0 (M.1 s0 0 0)).1 s0 1 0)) s 2 0 ((u1 (u1 M s 0 0 (M.1 s0 0 0)) s 1 0 ((u1 M s 0 0 (M.1 s0 0 0)).1 s0 1 0)).1 s0 2 0)).1 s0 3 0)).1 s0 3 1)).1 s0 3 2)).1 s0 4 0)) s 5 0 ((u1 (u1 (u1 (u1 (u1 (u1 (u1 M s 0 0 (M.1 s0 0 0)) s 1 0 ((u1 M s 0 0 (M.1 s0 0 0)).1 s0 1 0)) s 2 0 ((u1 (u1 M s 0 0 (M.1 s0 0 0)) s 1 0 ((u1 M s 0 0 (M.1 s0 0 0)).1 s0 1 0)).1 s0 2 0)) s 3 0 ((u1 (u1 (u1 M s 0 0 (M.1 s0 0 0)) s 1 0 ((u1 M s 0 0 (M.1 s0 0 0)).1 s0 1 0)) s 2 0 ((u1 (u1 M s 0 0 (M.1 s0 0 0)) s 1 0 ((u1 M s 0 0 (M.1 s0 0 0)).1 s0 1 0)).1 s0 2 0)).1 s0 3 0)) s 3 1 ((u1 (u1 (u1 (u1 M s 0 0 (M.1 s0 0 0)) s 1 0 ((u1 M s 0 0 (M.1 s0 0 0)).1 s0 1 0)) s 2 0 ((u1 (u1 M s 0 0 (M.1 s0 0 0)) s 1 0 ((u1 M s 0 0 (M.1 s0 0 0)).1 s0 1 0)).1 s0 2 0)) s 3 0 ((u1 (u1 (u1 M s 0 0 (M.1 s0 0 0)) s 1 0 ((u1 M s 0 0 (M.1 s0 0 0)).1 s0 1 0)) s 2 0 ((u1 (u1 M s 0 0 (M.1 s0 0 0)) s 1 0 ((u1 M s 0 0 (M.1 s0 0 0)).1 s0 1 0)).1 s0 2 0)).1 s0 3 0)).1 s0 3 1)) s 3 2 ((u1 (u1 (u1 (u1 (u1 M s 0 0 (M.1 s0 0 0)) s 1 0 ((u1 M s 0 0 (M.1 s0 0 0)).1 s0 1 0)) s 2 0 ((u1 (u1 M s 0 0 (M.1 s0 0 0)) s 1 0 ((u1 M s 0 0 (M.1 s0 0 0)).1 s0 1 0)).1 s0 2 0)) s 3 0 ((u1 (u1 (u1 M s 0 0 (M.1 s0 0 0)) s 1 0 ((u1 M s 0 0 (M.1 s0 0 0)).1 s0 1 0)) s 2 0 ((u1 (u1 M s 0 0 (M.1 s0 0 0)) s 1 0 ((u1 M s 0 0 (M.1 s0 0 0)).1 s0 1 0)).1 s0 2 0)).1 s0 3 0)) s 3 1 ((u1 (u1 (u1 (u1 M s 0 0 (M.1 s0 0 0)) s 1 0 ((u1 M s 0 0 (M.1 s0 0 0)).1 s0 1 0)) s 2 0 ((u1 (u1 M s 0 0 (M.1 s0 0 0)) s 1 0 ((u1 M s 0 0 (M.1 s0 0 0)).1 s0 1 0)).1 s0 2 0)) s 3 0 ((u1 (u1 (u1 M s 0 0 (M.1 s0 0 0)) s 1 0 ((u1 M s 0 0 (M.1 s0 0 0)).1 s0 1 0)) s 2 0 ((u1 (u1 M s 0 0 (M.1 s0 0 0)) s 1 0 ((u1 M s 0 0 (M.1 s0 0 0)).1 s0 1 0)).1 s0 2 0)).1 s0 3 0)).1 s0 3 1)).1 s0 3 2)) s 4 0 ((u1 (u1 (u1 (u1 (u1 (u1 M s 0 0 (M.1 s0 0 0)) s 1 0 ((u1 M s 0 0 (M.1 s0 0 0)).1 s0 1 0)) s 2 0 ((u1 (u1 M s 0 0 (M.1 s0 0 0)) s 1 0 ((u1 M s 0 0 (M.1 s0 0 0)).1 s0 1 0)).1 s0 2 0)) s 3 0 ((u1 (u1 (u1 M s 0 0 (M.1 s0 0 0)) s 1 0 ((u1 M s 0 0 (M.1 s0 0 0)).1 s0 1 0)) s 2 0 ((u1 (u1 M s 0 0 (M.1 s0 0 0)) s 1 0 ((u1 M s 0 0 (M.1 s0 0 0)).1 s0 1 0)).1 s0 2 0)).1 s0 3 0)) s 3 1 ((u1 (u1 (u1 (u1 M s 0 0 (M.1 s0 0 0)) s 1 0 ((u1 M s 0 0 (M.1 s0 0 0)).1 s0 1 0)) s 2 0 ((u1 (u1 M s 0 0 (M.1 s0 0 0)) s 1 0 ((u1 M s 0 0 (M.1 s0 0 0)).1 s0 1 0)).1 s0 2 0)) s 3 0 ((u1 (u1 (u1 M s 0 0 (M.1 s0 0 0)) s 1 0 ((u1 M s 0 0 (M.1 s0 0 0)).1 s0 1 0)) s 2 0 ((u1 (u1 M s 0 0 (M.1 s0 0 0)) s 1 0 ((u1 M s 0 0 (M.1 s0 0 0)).1 s0 1 0)).1 s0 2 0)).1 s0 3 0)).1 s0 3 1)) s 3 2 ((u1 (u1 (u1 (u1 (u1 M s 0 0 (M.1 s0 0 0)) s 1 0 ((u1 M s 0 0 (M.1 s0 0 0)).1 s0 1 0)) s 2 0 ((u1 (u1 M s 0 0 (M.1 s0 0 0)) s 1 0 ((u1 M s 0 0 (M.1 s0 0 0)).1 s0 1 0)).1 s0 2 0)) s 3 0 ((u1 (u1 (u1 M s 0 0 (M.1 s0 0 0)) s 1 0 ((u1 M s 0 0 (M.1 s0 0 0)).1 s0 1 0)) s 2 0 ((u1 (u1 M s 0 0 (M.1 s0 0 0)) s 1 0 ((u1 M s 0 0 (M.1 s0 0 0)).1 s0 1 0)).1 s0 2 0)).1 s0 3 0)) s 3 1 ((u1 (u1 (u1 (u1 M s 0 0 (M.1 s0 0 0)) s 1 0 ((u1 M s 0 0 (M.1 s0 0 0)).1 s0 1 0)) s 2 0 ((u1 (u1 M s 0 0 (M.1 s0 0 0)) s 1 0 ((u1 M s 0 0 (M.1 s0 0 0)).1 s0 1 0)).1 s0 2 0)) s 3 0 ((u1 (u1 (u1 M s 0 0 (M.1 s0 0 0)) s 1 0 ((u1 M s 0 0 (M.1 s0 0 0)).1 s0 1 0)) s 2 0 ((u1 (u1 M s 0 0 (M.1 s0 0 0)) s 1 0 ((u1 M s 0 0 (M.1 s0 0 0)).1 s0 1 0)).1 s0 2 0)).1 s0 3 0)).1 s0 3 1)).1 s0 3 2)).1 s0 4 0)).1 s0 5 0)))) from by rw [← hg97]; unfold st_X5_copyFrom_97; exact Eq.symm rfl)).wk rfl (wk_s rfl (wk_s rfl (wk_s rfl wk_0)))
      exact (lp97 0 (Nat.zero_le _) _ rfl).wk rfl (wk_s rfl (wk_s rfl (wk_s rfl wk_0)))
    · have hl66 : i < (tn (M.1 s0 0 0)) := by rw [hq66] at c1; have := mt (bd_le hwcs0 (by omega)).mpr c1; omega
      refine r_aload_n (pc := 74) hG dX5_copyFrom_74 rfl ?_
      refine gf_X5_windows (pc := 75) hs hG dX5_copyFrom_75 tw_162 ?_
      refine r_iload_n (pc := 78) hG dX5_copyFrom_78 rfl ?_
      refine aa_WA (pc := 79) hs hG dX5_copyFrom_79 (ix_nI (by omega) (Nat.le_of_ble_eq_true rfl)) ?_
      refine r_aload_n (pc := 80) hG dX5_copyFrom_80 rfl ?_
      refine gf_X5_windows (pc := 81) hs0 hG dX5_copyFrom_81 tw_162 ?_
      refine r_iload_n (pc := 84) hG dX5_copyFrom_84 rfl ?_
      refine aa_WA (pc := 85) hs0 hG dX5_copyFrom_85 (ix_nI (by omega) (Nat.le_of_ble_eq_true rfl)) ?_
      refine cv_X7_copyFrom (pc := 86) hs (by omega) hG dX5_copyFrom_86 tw_533 (c_X7_copyFrom hs (by omega) hs0 (by omega)) (by decide) (Nat.le_of_ble_eq_true rfl) ?_
      refine r_iinc (pc := 89) (v := nI (i + 1)) (ls' := [_, _, _]) hG dX5_copyFrom_89 rfl (nI_1 _) rfl rfl ?_
      refine r_goto (pc := 92) (tgt := 66) hG dX5_copyFrom_92 (by decide) ?_
      exact (ih66 hl66 (sp_X7_copyFrom b66 s i s0 i) (show sp_X7_copyFrom b66 s i s0 i = st_X5_copyFrom_66 M s s0 i (itN i (st_X5_copyFrom_66 M s s0) (u1 (u1 (u1 (u1 (u1 (u1 (u1 (u1 M s 0 0 (M.1 s0 0 0)) s 1 0 ((u1 M s 0 0 (M.1 s0 0 0)).1 s0 1 0)) s 2 0 ((u1 (u1 M s 0 0 (M.1 s0 0 0)) s 1 0 ((u1 M s 0 0 (M.1 s0 0 0)).1 s0 1 0)).1 s0 2 0)) s 3 0 ((u1 (u1 (u1 M s 0 0 (M.1 s0 0 0)) s 1 0 ((u1 M s 0 0 (M.1 s0 0 0)).1 s0 1 0)) s 2 0 ((u1 (u1 M s 0 0 (M.1 s0 0 0)) s 1 0 ((u1 M s 0 0 (M.1 s0 0 0)).1 s0 1 0)).1 s0 2 0)).1 s0 3 0)) s 3 1 ((u1 (u1 (u1 (u1 M s 0 0 (M.1 s0 0 0)) s 1 0 ((u1 M s 0 0 (M.1 s0 0 0)).1 s0 1 0)) s 2 0 ((u1 (u1 M s 0 0 (M.1 s0 0 0)) s 1 0 ((u1 M s 0 0 (M.1 s0 0 0)).1 s0 1 0)).1 s0 2 0)) s 3 0 ((u1 (u1 (u1 M s 0 0 (M.1 s0 0 0)) s 1 0 ((u1 M s 0 0 (M.1 s0 0 0)).1 s0 1 0)) s 2 0 ((u1 (u1 M s 0 0 (M.1 s0 0 0)) s 1 0 ((u1 M s 0 0 (M.1 s0 0 0)).1 s0 1 0)).1 s0 2 0)).1 s0 3 0)).1 s0 3 1)) s 3 2 ((u1 (u1 (u1 (u1 (u1 M s 0 0 (M.1 s0 0 0)) s 1 0 ((u1 M s 0 0 (M.1 s0 0 0)).1 s0 1 0)) s 2 0 ((u1 (u1 M s 0 0 (M.1 s0 0 0)) s 1 0 ((u1 M s 0 0 (M.1 s0 0 0)).1 s0 1 0)).1 s0 2 0)) s 3 0 ((u1 (u1 (u1 M s 0 0 (M.1 s0 0 0)) s 1 0 ((u1 M s 0 0 (M.1 s0 0 0)).1 s0 1 0)) s 2 0 ((u1 (u1 M s 0 0 (M.1 s0 0 0)) s 1 0 ((u1 M s 0 0 (M.1 s0 0 0)).1 s0 1 0)).1 s0 2 0)).1 s0 3 0)) s 3 1 ((u1 (u1 (u1 (u1 M s 0 0 (M.1 s0 0 0)) s 1 0 ((u1 M s 0 0 (M.1 s0 0 0)).1 s0 1 0)) s 2 0 ((u1 (u1 M s 0 0 (M.1 s0 0 0)) s 1 0 ((u1 M s 0 0 (M.1 s0 0 0)).1 s0 1 0)).1 s0 2 0)) s 3 0 ((u1 (u1 (u1 M s 0 0 (M.1 s0 0 0)) s 1 0 ((u1 M s 0 0 (M.1 s0 0 0)).1 s0 1 0)) s 2 0 ((u1 (u1 M s 0 0 (M.1 s0 0 0)) s 1 0 ((u1 M s 0 0 (M.1 s0 0 0)).1 s0 1 0)).1 s0 2 0)).1 s0 3 0)).1 s0 3 1)).1 s0 3 2)) s 4 0 ((u1 (u1 (u1 (u1 (u1 (u1 M s 0 0 (M.1 s0 0 0)) s 1 0 ((u1 M s 0 0 (M.1 s0 0 0)).1 s0 1 0)) s 2 0 ((u1 (u1 M s 0 0 (M.1 s0 0 0)) s 1 0 ((u1 M s 0 0 (M.1 s0 0 0)).1 s0 1 0)).1 s0 2 0)) s 3 0 ((u1 (u1 (u1 M s 0 0 (M.1 s0 0 0)) s 1 0 ((u1 M s 0 0 (M.1 s0 0 0)).1 s0 1 0)) s 2 0 ((u1 (u1 M s 0 0 (M.1 s0 0 0)) s 1 0 ((u1 M s 0 0 (M.1 s0 0 0)).1 s0 1 0)).1 s0 2 0)).1 s0 3 0)) s 3 1 ((u1 (u1 (u1 (u1 M s 0 0 (M.1 s0 0 0)) s 1 0 ((u1 M s 0 0 (M.1 s0 0 0)).1 s0 1 0)) s 2 0 ((u1 (u1 M s 0 0 (M.1 s0 0 0)) s 1 0 ((u1 M s 0 0 (M.1 s0 0 0)).1 s0 1 0)).1 s0 2 0)) s 3 0 ((u1 (u1 (u1 M s 0 0 (M.1 s0 0 0)) s 1 0 ((u1 M s 0 0 (M.1 s0 0 0)).1 s0 1 0)) s 2 0 ((u1 (u1 M s 0 0 (M.1 s0 0 0)) s 1 0 ((u1 M s 0 0 (M.1 s0 0 0)).1 s0 1 0)).1 s0 2 0)).1 s0 3 0)).1 s0 3 1)) s 3 2 ((u1 (u1 (u1 (u1 (u1 M s 0 0 (M.1 s0 0 0)) s 1 0 ((u1 M s 0 0 (M.1 s0 0 0)).1 s0 1 0)) s 2 0 ((u1 (u1 M s 0 0 (M.1 s0 0 0)) s 1 0 ((u1 M s 0 0 (M.1 s0 0 0)).1 s0 1 0)).1 s0 2 0)) s 3 0 ((u1 (u1 (u1 M s 0 0 (M.1 s0 0 0)) s 1 0 ((u1 M s 0 0 (M.1 s0 0 0)).1 s0 1 0)) s 2 0 ((u1 (u1 M s 0 0 (M.1 s0 0 0)) s 1 0 ((u1 M s 0 0 (M.1 s0 0 0)).1 s0 1 0)).1 s0 2 0)).1 s0 3 0)) s 3 1 ((u1 (u1 (u1 (u1 M s 0 0 (M.1 s0 0 0)) s 1 0 ((u1 M s 0 0 (M.1 s0 0 0)).1 s0 1 0)) s 2 0 ((u1 (u1 M s 0 0 (M.1 s0 0 0)) s 1 0 ((u1 M s 0 0 (M.1 s0 0 0)).1 s0 1 0)).1 s0 2 0)) s 3 0 ((u1 (u1 (u1 M s 0 0 (M.1 s0 0 0)) s 1 0 ((u1 M s 0 0 (M.1 s0 0 0)).1 s0 1 0)) s 2 0 ((u1 (u1 M s 0 0 (M.1 s0 0 0)) s 1 0 ((u1 M s 0 0 (M.1 s0 0 0)).1 s0 1 0)).1 s0 2 0)).1 s0 3 0)).1 s0 3 1)).1 s0 3 2)).1 s0 4 0)) s 5 0 ((u1 (u1 (u1 (u1 (u1 (u1 (u1 M s 0 0 (M.1 s0 0 0)) s 1 0 ((u1 M s 0 0 (M.1 s0 0 0)).1 s0 1 0)) s 2 0 ((u1 (u1 M s 0 0 (M.1 s0 0 0)) s 1 0 ((u1 M s 0 0 (M.1 s0 0 0)).1 s0 1 0)).1 s0 2 0)) s 3 0 ((u1 (u1 (u1 M s 0 0 (M.1 s0 0 0)) s 1 0 ((u1 M s 0 0 (M.1 s0 0 0)).1 s0 1 0)) s 2 0 ((u1 (u1 M s 0 0 (M.1 s0 0 0)) s 1 0 ((u1 M s 0 0 (M.1 s0 0 0)).1 s0 1 0)).1 s0 2 0)).1 s0 3 0)) s 3 1 ((u1 (u1 (u1 (u1 M s 0 0 (M.1 s0 0 0)) s 1 0 ((u1 M s 0 0 (M.1 s0 0 0)).1 s0 1 0)) s 2 0 ((u1 (u1 M s 0 0 (M.1 s0 0 0)) s 1 0 ((u1 M s 0 0 (M.1 s0 0 0)).1 s0 1 0)).1 s0 2 0)) s 3 0 ((u1 (u1 (u1 M s 0 0 (M.1 s0 0 0)) s 1 0 ((u1 M s 0 0 (M.1 s0 0 0)).1 s0 1 0)) s 2 0 ((u1 (u1 M s 0 0 (M.1 s0 0 0)) s 1 0 ((u1 M s 0 0 (M.1 s0 0 0)).1 s0 1 0)).1 s0 2 0)).1 s0 3 0)).1 s0 3 1)) s 3 2 ((u1 (u1 (u1 (u1 (u1 M s 0 0 (M.1 s0 0 0)) s 1 0 ((u1 M s 0 0 (M.1 s0 0 0)).1 s0 1 0)) s 2 0 ((u1 (u1 M s 0 0 (M.1 s0 0 0)) s 1 0 ((u1 M s 0 0 (M.1 s0 0 0)).1 s0 1 0)).1 s0 2 0)) s 3 0 ((u1 (u1 (u1 M s 0 0 (M.1 s0 0 0)) s 1 0 ((u1 M s 0 0 (M.1 s0 0 0)).1 s0 1 0)) s 2 0 ((u1 (u1 M s 0 0 (M.1 s0 0 0)) s 1 0 ((u1 M s 0 0 (M.1 s0 0 0)).1 s0 1 0)).1 s0 2 0)).1 s0 3 0)) s 3 1 ((u1 (u1 (u1 (u1 M s 0 0 (M.1 s0 0 0)) s 1 0 ((u1 M s 0 0 (M.1 s0 0 0)).1 s0 1 0)) s 2 0 ((u1 (u1 M s 0 0 (M.1 s0 0 0)) s 1 0 ((u1 M s 0 0 (M.1 s0 0 0)).1 s0 1 0)).1 s0 2 0)) s 3 0 ((u1 (u1 (u1 M s 0 0 (M.1 s0 0 0)) s 1 0 ((u1 M s 0 0 (M.1 s0 0 0)).1 s0 1 0)) s 2 0 ((u1 (u1 M s 0 0 (M.1 s0 0 0)) s 1 0 ((u1 M s 0 0 (M.1 s0 0 0)).1 s0 1 0)).1 s0 2 0)).1 s0 3 0)).1 s0 3 1)).1 s0 3 2)) s 4 0 ((u1 (u1 (u1 (u1 (u1 (u1 M s 0 0 (M.1 s0 0 0)) s 1 0 ((u1 M s 0 0 (M.1 s0 0 0)).1 s0 1 0)) s 2 0 ((u1 (u1 M s 0 0 (M.1 s0 0 0)) s 1 0 ((u1 M s 0 0 (M.1 s0 0 0)).1 s0 1 0)).1 s0 2 0)) s 3 0 ((u1 (u1 (u1 M s 0 0 (M.1 s0 0 0)) s 1 0 ((u1 M s 0 0 (M.1 s0 0 0)).1 s0 1 0)) s 2 0 ((u1 (u1 M s 0 0 (M.1 s0 0 0)) s 1 0 ((u1 M s 0 0 (M.1 s0 0 0)).1 s0 1 0)).1 s0 2 0)).1 s0 3 0)) s 3 1 ((u1 (u1 (u1 (u1 M s 0 0 (M.1 s0 0 0)) s 1 0 ((u1 M s 0 0 (M.1 s0 0 0)).1 s0 1 0)) s 2 0 ((u1 (u1 M s 0 0 (M.1 s0 0 0)) s 1 0 ((u1 M s 0 0 (M.1 s0 0 0)).1 s0 1 0)).1 s0 2 0)) s 3 0 ((u1 (u1 (u1 M s 0 0 (M.1 s0 0 0)) s 1 0 ((u1 M s 0 0 (M.1 s0 0 0)).1 s0 1 0)) s 2 0 ((u1 (u1 M s 0 0 (M.1 s0 0 0)) s 1 0 ((u1 M s 0 0 (M.1 s0 0 0)).1 s0 1 0)).1 s0 2 0)).1 s0 3 0)).1 s0 3 1)) s 3 2 ((u1 (u1 (u1 (u1 (u1 M s 0 0 (M.1 s0 0 0)) s 1 0 ((u1 M s 0 0 (M.1 s0 0 0)).1 s0 1 0)) s 2 0 ((u1 (u1 M s 0 0 (M.1 s0 0 0)) s 1 0 ((u1 M s 0 0 (M.1 s0 0 0)).1 s0 1 0)).1 s0 2 0)) s 3 0 ((u1 (u1 (u1 M s 0 0 (M.1 s0 0 0)) s 1 0 ((u1 M s 0 0 (M.1 s0 0 0)).1 s0 1 0)) s 2 0 ((u1 (u1 M s 0 0 (M.1 s0 0 0)) s 1 0 ((u1 M s 0 0 (M.1 s0 0 0)).1 s0 1 0)).1 s0 2 0)).1 s0 3 0)) s 3 1 ((u1 (u1 (u1 (u1 M s 0 0 (M.1 s0 0 0)) s 1 0 ((u1 M s 0 0 (M.1 s0 0 0)).1 s0 1 0)) s 2 0 ((u1 (u1 M s 0 0 (M.1 s0 0 0)) s 1 0 ((u1 M s 0 0 (M.1 s0 0 0)).1 s0 1 0)).1 s0 2 0)) s 3 0 ((u1 (u1 (u1 M s 0 0 (M.1 s0 0 0)) s 1 0 ((u1 M s 0 0 (M.1 s0 0 0)).1 s0 1 0)) s 2 0 ((u1 (u1 M s 0 0 (M.1 s0 0 0)) s 1 0 ((u1 M s 0 0 (M.1 s0 0 0)).1 s0 1 0)).1 s0 2 0)).1 s0 3 0)).1 s0 3 1)).1 s0 3 2)).1 s0 4 0)).1 s0 5 0))) from by rw [← hg66]; unfold st_X5_copyFrom_66; exact Eq.symm rfl)).wk rfl (wk_s rfl (wk_s rfl (wk_s rfl wk_0)))
  exact (lp66 0 (Nat.zero_le _) _ rfl).wk rfl (wk_s rfl (wk_s rfl (wk_s rfl wk_0)))

def st_X5_passDay_18 (M : MT) (s : Nat) (i : Nat) (b18 : MT) : MT :=
  if (b18.1 s 13 i) = (-1) then
    b18
  else
    if (b18.1 s 3 1) < (b18.1 s 13 i) then
      b18
    else
      u1 (sp_X2_drop b18 s i) s 4 0 (((sp_X2_drop b18 s i).1 s 4 0) + 1)
def sp_X5_passDay (M : MT) (s : Nat) : MT :=
  (itN (tn (M.1 s 1 0)) (st_X5_passDay_18 M s) (u1 M s 3 1 (imin ((M.1 s 3 1) + 1) 999)))
set_option maxRecDepth 20000 in
theorem c_X5_passDay {K : KT} {M : MT} {s : Nat} (hs : s < 5) (hoks : OKs M s) : CM K 2 yX5_passDay cX5_passDay 2 none [rf K (iS s)] M none (sp_X5_passDay M s) := by
  refine CM.ofV (by decide) [some (rf K (iS s)), none] rfl (Nat.le_of_ble_eq_true rfl) (Nat.le_of_ble_eq_true rfl) (fun G hG _ hret => ?_)
  obtain ⟨hwcs, hpcs, ⟨hcls, hcms⟩, hwis, hdas, hles, hk8s, ha8s, hWs, hPs⟩ := id hoks
  have hwls := bd_lt hwcs
  have hpls := bd_lt hpcs
  have hclsl := bd_lt hcls
  refine r_aload_n (pc := 0) hG dX5_passDay_0 rfl ?_
  refine r_aload_n (pc := 1) hG dX5_passDay_1 rfl ?_
  refine gf_X5_day (pc := 2) hs hG dX5_passDay_2 tw_185 ?_
  refine r_iconst (pc := 5) hG dX5_passDay_5 ic_1 ?_
  refine r_iadd (pc := 6) hG dX5_passDay_6 ?_
  refine r_sipush (pc := 7) hG dX5_passDay_7 sc_999 ?_
  refine r_mmin (pc := 10) hG dX5_passDay_10 tw_1122 (by decide) (Nat.le_of_ble_eq_true rfl) ?_
  refine pf_X5_day (pc := 13) hs hG dX5_passDay_13 tw_185 ?_
  refine r_iconst (pc := 16) hG dX5_passDay_16 ic_0 ?_
  refine r_istore_n (pc := 17) (ls' := [_, _]) hG dX5_passDay_17 rfl rfl ?_
  have lp18 : ∀ i, i ≤ (tn (M.1 s 1 0)) → ∀ b18 : MT, b18 = itN i (st_X5_passDay_18 M s) (u1 M s 3 1 (imin ((M.1 s 3 1) + 1) 999)) → J G K b18 18 [some (rf K (iS s)), some (.int (nI i))] [] := by
    refine up_ind (tn (M.1 s 1 0)) (fun i hi18 ih18 => ?_)
    intro b18 hg18
    have hq18 : b18.1 s 1 0 = M.1 s 1 0 := by subst hg18; exact itN_inv (fun m : MT => m.1 s 1 0 = M.1 s 1 0) i (by simp [u1]) (fun k m hk hm => by unfold st_X5_passDay_18; (repeat' split) <;> simp [sp_X2_drop, u1, hm])
    refine r_iload_n (pc := 18) hG dX5_passDay_18 rfl ?_
    refine r_aload_n (pc := 19) hG dX5_passDay_19 rfl ?_
    refine gf_X5_personCount (pc := 20) hs hG dX5_passDay_20 tw_173 ?_
    refine r_icmp_ge (pc := 23) (tgt := 80) hG dX5_passDay_23 (by decide) (fun c1 => ?_) (fun c1 => ?_)
    · have e18 : i = (tn (M.1 s 1 0)) := by rw [hq18] at c1; have := (bd_le hpcs (by omega)).mp c1; omega
      subst hg18
      subst e18
      exact hret _ _ _ dX5_passDay_80 (Eq.symm (by unfold sp_X5_passDay; exact rfl))
    · have hl18 : i < (tn (M.1 s 1 0)) := by rw [hq18] at c1; have := mt (bd_le hpcs (by omega)).mpr c1; omega
      refine r_aload_n (pc := 26) hG dX5_passDay_26 rfl ?_
      refine gf_X5_people (pc := 27) hs hG dX5_passDay_27 tw_164 ?_
      refine r_iload_n (pc := 30) hG dX5_passDay_30 rfl ?_
      refine aa_PA (pc := 31) hs hG dX5_passDay_31 (ix_nI (by omega) (Nat.le_of_ble_eq_true rfl)) ?_
      refine gf_X2_due (pc := 32) hs (by omega) hG dX5_passDay_32 tw_150 ?_
      refine r_iconst (pc := 35) hG dX5_passDay_35 ic_m1 ?_
      refine r_icmp_eq (pc := 36) (tgt := 74) hG dX5_passDay_36 (by decide) (fun c2 => ?_) (fun c2 => ?_)
      · refine r_iinc (pc := 74) (v := nI (i + 1)) (ls' := [_, _]) hG dX5_passDay_74 rfl (nI_1 _) rfl rfl ?_
        refine r_goto (pc := 77) (tgt := 18) hG dX5_passDay_77 (by decide) ?_
        exact (ih18 hl18 b18 (show b18 = st_X5_passDay_18 M s i (itN i (st_X5_passDay_18 M s) (u1 M s 3 1 (imin ((M.1 s 3 1) + 1) 999))) from by rw [← hg18]; unfold st_X5_passDay_18; exact Eq.symm (if_pos c2))).wk rfl (wk_s rfl (wk_s rfl wk_0))
      · refine r_aload_n (pc := 39) hG dX5_passDay_39 rfl ?_
        refine gf_X5_people (pc := 40) hs hG dX5_passDay_40 tw_164 ?_
        refine r_iload_n (pc := 43) hG dX5_passDay_43 rfl ?_
        refine aa_PA (pc := 44) hs hG dX5_passDay_44 (ix_nI (by omega) (Nat.le_of_ble_eq_true rfl)) ?_
        refine gf_X2_due (pc := 45) hs (by omega) hG dX5_passDay_45 tw_150 ?_
        refine r_aload_n (pc := 48) hG dX5_passDay_48 rfl ?_
        refine gf_X5_day (pc := 49) hs hG dX5_passDay_49 tw_185 ?_
        refine r_icmp_gt (pc := 52) (tgt := 74) hG dX5_passDay_52 (by decide) (fun c3 => ?_) (fun c3 => ?_)
        · refine r_iinc (pc := 74) (v := nI (i + 1)) (ls' := [_, _]) hG dX5_passDay_74 rfl (nI_1 _) rfl rfl ?_
          refine r_goto (pc := 77) (tgt := 18) hG dX5_passDay_77 (by decide) ?_
          exact (ih18 hl18 b18 (show b18 = st_X5_passDay_18 M s i (itN i (st_X5_passDay_18 M s) (u1 M s 3 1 (imin ((M.1 s 3 1) + 1) 999))) from by rw [← hg18]; unfold st_X5_passDay_18; exact Eq.symm ((if_neg c2).trans (if_pos c3)))).wk rfl (wk_s rfl (wk_s rfl wk_0))
        · refine r_aload_n (pc := 55) hG dX5_passDay_55 rfl ?_
          refine gf_X5_people (pc := 56) hs hG dX5_passDay_56 tw_164 ?_
          refine r_iload_n (pc := 59) hG dX5_passDay_59 rfl ?_
          refine aa_PA (pc := 60) hs hG dX5_passDay_60 (ix_nI (by omega) (Nat.le_of_ble_eq_true rfl)) ?_
          refine cv_X2_drop (pc := 61) hs (by omega) hG dX5_passDay_61 tw_502 (c_X2_drop hs (by omega)) (by decide) (Nat.le_of_ble_eq_true rfl) ?_
          refine r_aload_n (pc := 64) hG dX5_passDay_64 rfl ?_
          refine r_dup (pc := 65) hG dX5_passDay_65 rfl ?_
          refine gf_X5_said (pc := 66) hs hG dX5_passDay_66 tw_191 ?_
          refine r_iconst (pc := 69) hG dX5_passDay_69 ic_1 ?_
          refine r_iadd (pc := 70) hG dX5_passDay_70 ?_
          refine pf_X5_said (pc := 71) hs hG dX5_passDay_71 tw_191 ?_
          refine r_iinc (pc := 74) (v := nI (i + 1)) (ls' := [_, _]) hG dX5_passDay_74 rfl (nI_1 _) rfl rfl ?_
          refine r_goto (pc := 77) (tgt := 18) hG dX5_passDay_77 (by decide) ?_
          exact (ih18 hl18 (u1 (sp_X2_drop b18 s i) s 4 0 (((sp_X2_drop b18 s i).1 s 4 0) + 1)) (show u1 (sp_X2_drop b18 s i) s 4 0 (((sp_X2_drop b18 s i).1 s 4 0) + 1) = st_X5_passDay_18 M s i (itN i (st_X5_passDay_18 M s) (u1 M s 3 1 (imin ((M.1 s 3 1) + 1) 999))) from by rw [← hg18]; unfold st_X5_passDay_18; exact Eq.symm ((if_neg c2).trans (if_neg c3)))).wk rfl (wk_s rfl (wk_s rfl wk_0))
  exact (lp18 0 (Nat.zero_le _) _ rfl).wk rfl (wk_s rfl (wk_s rfl wk_0))

def sp_X5_throwRose (M : MT) (s : Nat) (a0 : Int32) (a1 : Int32) (a2 : Int32) : Int32 × MT :=
  if (sp_X5_catcherOf M s a0 a1 a2) = (-1) then
    (sp_X5_catcherOf M s a0 a1 a2, M)
  else
    (sp_X5_catcherOf M s a0 a1 a2, u1 (u1 M s 12 (tn (sp_X5_catcherOf M s a0 a1 a2)) a0) s 13 (tn (sp_X5_catcherOf M s a0 a1 a2)) (sp_X5_dueDay (u1 M s 12 (tn (sp_X5_catcherOf M s a0 a1 a2)) a0) s (sp_X5_catcherOf M s a0 a1 a2) a0))
set_option maxRecDepth 20000 in
theorem c_X5_throwRose {K : KT} {M : MT} {s : Nat} {a0 : Int32} {a1 : Int32} {a2 : Int32} (hs : s < 5) (ha0b : bd (a0) 8) (hoks : OKs M s) : CM K 5 yX5_throwRose cX5_throwRose 5 (some FieldType.int) [rf K (iS s), .int a0, .int a1, .int a2] M (some (.int (sp_X5_throwRose M s a0 a1 a2).1)) (sp_X5_throwRose M s a0 a1 a2).2 := by
  refine CM.ofI (by decide) [some (rf K (iS s)), some (.int a0), some (.int a1), some (.int a2), none] rfl (Nat.le_of_ble_eq_true rfl) (Nat.le_of_ble_eq_true rfl) (fun G hG _ hret => ?_)
  obtain ⟨hwcs, hpcs, ⟨hcls, hcms⟩, hwis, hdas, hles, hk8s, ha8s, hWs, hPs⟩ := id hoks
  have hwls := bd_lt hwcs
  have hpls := bd_lt hpcs
  have hclsl := bd_lt hcls
  refine r_aload_n (pc := 0) hG dX5_throwRose_0 rfl ?_
  refine r_iload_n (pc := 1) hG dX5_throwRose_1 rfl ?_
  refine r_iload_n (pc := 2) hG dX5_throwRose_2 rfl ?_
  refine r_iload_n (pc := 3) hG dX5_throwRose_3 rfl ?_
  refine cv_X5_catcherOf (pc := 4) hs hG dX5_throwRose_4 tw_750 (c_X5_catcherOf hs ha0b hoks) (by decide) (Nat.le_of_ble_eq_true rfl) ?_
  refine r_istore (pc := 7) (ls' := [_, _, _, _, _]) hG dX5_throwRose_7 rfl rfl ?_
  refine r_iload (pc := 9) hG dX5_throwRose_9 rfl ?_
  refine r_iconst (pc := 11) hG dX5_throwRose_11 ic_m1 ?_
  refine r_icmp_eq (pc := 12) (tgt := 43) hG dX5_throwRose_12 (by decide) (fun c1 => ?_) (fun c1 => ?_)
  · refine r_iload (pc := 43) hG dX5_throwRose_43 rfl ?_
    exact hret _ _ _ _ dX5_throwRose_45 (pair_fst (show sp_X5_throwRose M s a0 a1 a2 = (sp_X5_catcherOf M s a0 a1 a2, M) from (by unfold sp_X5_throwRose; exact (if_pos c1)))) (pair_snd (show sp_X5_throwRose M s a0 a1 a2 = (sp_X5_catcherOf M s a0 a1 a2, M) from (by unfold sp_X5_throwRose; exact (if_pos c1))))
  · refine r_aload_n (pc := 15) hG dX5_throwRose_15 rfl ?_
    refine gf_X5_people (pc := 16) hs hG dX5_throwRose_16 tw_164 ?_
    refine r_iload (pc := 19) hG dX5_throwRose_19 rfl ?_
    refine aa_PA (pc := 21) hs hG dX5_throwRose_21 (ix_bd (cO_bd hpcs c1)) ?_
    refine r_iload_n (pc := 22) hG dX5_throwRose_22 rfl ?_
    refine pf_X2_rose (pc := 23) hs (bd_lt (cO_bd hpcs c1)) hG dX5_throwRose_23 tw_146 ?_
    refine r_aload_n (pc := 26) hG dX5_throwRose_26 rfl ?_
    refine gf_X5_people (pc := 27) hs hG dX5_throwRose_27 tw_164 ?_
    refine r_iload (pc := 30) hG dX5_throwRose_30 rfl ?_
    refine aa_PA (pc := 32) hs hG dX5_throwRose_32 (ix_bd (cO_bd hpcs c1)) ?_
    refine r_aload_n (pc := 33) hG dX5_throwRose_33 rfl ?_
    refine r_iload (pc := 34) hG dX5_throwRose_34 rfl ?_
    refine r_iload_n (pc := 36) hG dX5_throwRose_36 rfl ?_
    refine cv_X5_dueDay (pc := 37) hs hG dX5_throwRose_37 tw_1084 (c_X5_dueDay hs (cO_bd hpcs c1) ha0b) (by decide) (Nat.le_of_ble_eq_true rfl) ?_
    refine pf_X2_due (pc := 40) hs (bd_lt (cO_bd hpcs c1)) hG dX5_throwRose_40 tw_150 ?_
    refine r_iload (pc := 43) hG dX5_throwRose_43 rfl ?_
    exact hret _ _ _ _ dX5_throwRose_45 (pair_fst (show sp_X5_throwRose M s a0 a1 a2 = (sp_X5_catcherOf M s a0 a1 a2, u1 (u1 M s 12 (tn (sp_X5_catcherOf M s a0 a1 a2)) a0) s 13 (tn (sp_X5_catcherOf M s a0 a1 a2)) (sp_X5_dueDay (u1 M s 12 (tn (sp_X5_catcherOf M s a0 a1 a2)) a0) s (sp_X5_catcherOf M s a0 a1 a2) a0)) from (by unfold sp_X5_throwRose; exact (if_neg c1)))) (pair_snd (show sp_X5_throwRose M s a0 a1 a2 = (sp_X5_catcherOf M s a0 a1 a2, u1 (u1 M s 12 (tn (sp_X5_catcherOf M s a0 a1 a2)) a0) s 13 (tn (sp_X5_catcherOf M s a0 a1 a2)) (sp_X5_dueDay (u1 M s 12 (tn (sp_X5_catcherOf M s a0 a1 a2)) a0) s (sp_X5_catcherOf M s a0 a1 a2) a0)) from (by unfold sp_X5_throwRose; exact (if_neg c1))))
