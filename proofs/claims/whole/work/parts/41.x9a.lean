/-! ===== the reference ===== -/
/-- what the reference keeps to -/
def OKw (M : MT) : Prop := bd (M.1 5 0 0) 9 ∧ bd (M.1 5 1 0) 9 ∧ (bd (M.1 5 2 0) 31 ∧ 2 ≤ tn (M.1 5 2 0)) ∧ bd (M.1 5 3 0) 11 ∧ bd (M.1 5 3 1) 1000 ∧ bd (M.1 5 3 2) 1000 ∧ True ∧ True ∧ True ∧ True
def OKR (M : MT) : Prop := OKw M ∧
  (∀ t, t < 8 → bd (M.2.1 33 t) 41 ∧ (M.2.1 32 t = -1 ∨ bd (M.2.1 32 t) 5 ∨ (10 ≤ M.2.1 32 t ∧ bd (M.2.1 32 t - 10) 8 ∧ tn (M.2.1 32 t - 10) < tn (M.1 5 1 0)))) ∧ bd (M.2.1 30 0) 251

def sp_X9_within (a0 : Int32) (a1 : Int32) (a2 : Int32) : Bool :=
  if a0 < a1 then
    false
  else
    if a2 < a0 then
      false
    else
      true
set_option maxRecDepth 20000 in
theorem c_X9_within {K : KT} {M : MT} {a0 : Int32} {a1 : Int32} {a2 : Int32}   : CM K 1 yX9_within cX9_within 3 (some FieldType.boolean) [.int a0, .int a1, .int a2] M (some (.int (bz (sp_X9_within a0 a1 a2)))) M := by
  refine CM.ofZ (by decide) [some (.int a0), some (.int a1), some (.int a2)] rfl (Nat.le_of_ble_eq_true rfl) (Nat.le_of_ble_eq_true rfl) (fun G hG _ hret => ?_)
  refine r_iload_n (pc := 0) hG dX9_within_0 rfl ?_
  refine r_iload_n (pc := 1) hG dX9_within_1 rfl ?_
  refine r_icmp_lt (pc := 2) (tgt := 14) hG dX9_within_2 (by decide) (fun c1 => ?_) (fun c1 => ?_)
  · refine r_iconst (pc := 14) hG dX9_within_14 ic_0 ?_
    exact hret _ _ _ _ dX9_within_15 (bz_f (by unfold sp_X9_within; exact (if_pos c1))) rfl
  · refine r_iload_n (pc := 5) hG dX9_within_5 rfl ?_
    refine r_iload_n (pc := 6) hG dX9_within_6 rfl ?_
    refine r_icmp_gt (pc := 7) (tgt := 14) hG dX9_within_7 (by decide) (fun c2 => ?_) (fun c2 => ?_)
    · refine r_iconst (pc := 14) hG dX9_within_14 ic_0 ?_
      exact hret _ _ _ _ dX9_within_15 (bz_f (by unfold sp_X9_within; exact ((if_neg c1).trans (if_pos c2)))) rfl
    · refine r_iconst (pc := 10) hG dX9_within_10 ic_1 ?_
      refine r_goto (pc := 11) (tgt := 15) hG dX9_within_11 (by decide) ?_
      exact hret _ _ _ _ dX9_within_15 (bz_t (by unfold sp_X9_within; exact ((if_neg c1).trans (if_neg c2)))) rfl

theorem w98 {a b c : Int32} : sp_X9_within a b c = sp_X8_within a b c := rfl

def sp_X9_isShelf (a0 : Int32) : Bool :=
  (sp_X9_within a0 0 7)
set_option maxRecDepth 20000 in
theorem c_X9_isShelf {K : KT} {M : MT} {a0 : Int32}   : CM K 2 yX9_isShelf cX9_isShelf 1 (some FieldType.boolean) [.int a0] M (some (.int (bz (sp_X9_isShelf a0)))) M := by
  refine CM.ofZ (by decide) [some (.int a0)] rfl (Nat.le_of_ble_eq_true rfl) (Nat.le_of_ble_eq_true rfl) (fun G hG _ hret => ?_)
  refine r_iload_n (pc := 0) hG dX9_isShelf_0 rfl ?_
  refine r_iconst (pc := 1) hG dX9_isShelf_1 ic_0 ?_
  refine r_bipush (pc := 2) hG dX9_isShelf_2 bc_7 ?_
  refine cs_X9_within (pc := 4)  hG dX9_isShelf_4 tw_1270 (c_X9_within) (by decide) (Nat.le_of_ble_eq_true rfl) ?_
  exact hret _ _ _ _ dX9_isShelf_7 (bz_e (by unfold sp_X9_isShelf; exact rfl)) rfl

def sp_X9_isCell (M : MT) (a0 : Int32) : Bool :=
  (sp_X9_within a0 0 ((M.1 5 2 0) - 1))
set_option maxRecDepth 20000 in
theorem c_X9_isCell {K : KT} {M : MT} {a0 : Int32}   : CM K 2 yX9_isCell cX9_isCell 2 (some FieldType.boolean) [rf K 140, .int a0] M (some (.int (bz (sp_X9_isCell M a0)))) M := by
  refine CM.ofZ (by decide) [some (rf K 140), some (.int a0)] rfl (Nat.le_of_ble_eq_true rfl) (Nat.le_of_ble_eq_true rfl) (fun G hG _ hret => ?_)
  refine r_iload_n (pc := 0) hG dX9_isCell_0 rfl ?_
  refine r_iconst (pc := 1) hG dX9_isCell_1 ic_0 ?_
  refine r_aload_n (pc := 2) hG dX9_isCell_2 rfl ?_
  refine gf_X9_n (pc := 3)  hG dX9_isCell_3 tw_1166 ?_
  refine r_iconst (pc := 6) hG dX9_isCell_6 ic_1 ?_
  refine r_isub (pc := 7) hG dX9_isCell_7 ?_
  refine cs_X9_within (pc := 8)  hG dX9_isCell_8 tw_1270 (c_X9_within) (by decide) (Nat.le_of_ble_eq_true rfl) ?_
  exact hret _ _ _ _ dX9_isCell_11 (bz_e (by unfold sp_X9_isCell; exact rfl)) rfl

def sp_X9_isWindow (M : MT) (a0 : Int32) : Bool :=
  (sp_X9_within a0 0 ((M.1 5 0 0) - 1))
set_option maxRecDepth 20000 in
theorem c_X9_isWindow {K : KT} {M : MT} {a0 : Int32}   : CM K 2 yX9_isWindow cX9_isWindow 2 (some FieldType.boolean) [rf K 140, .int a0] M (some (.int (bz (sp_X9_isWindow M a0)))) M := by
  refine CM.ofZ (by decide) [some (rf K 140), some (.int a0)] rfl (Nat.le_of_ble_eq_true rfl) (Nat.le_of_ble_eq_true rfl) (fun G hG _ hret => ?_)
  refine r_iload_n (pc := 0) hG dX9_isWindow_0 rfl ?_
  refine r_iconst (pc := 1) hG dX9_isWindow_1 ic_0 ?_
  refine r_aload_n (pc := 2) hG dX9_isWindow_2 rfl ?_
  refine gf_X9_windows (pc := 3)  hG dX9_isWindow_3 tw_1169 ?_
  refine r_iconst (pc := 6) hG dX9_isWindow_6 ic_1 ?_
  refine r_isub (pc := 7) hG dX9_isWindow_7 ?_
  refine cs_X9_within (pc := 8)  hG dX9_isWindow_8 tw_1270 (c_X9_within) (by decide) (Nat.le_of_ble_eq_true rfl) ?_
  exact hret _ _ _ _ dX9_isWindow_11 (bz_e (by unfold sp_X9_isWindow; exact rfl)) rfl

def sp_X9_isOne (M : MT) (a0 : Int32) : Bool :=
  (sp_X9_within a0 0 ((M.1 5 1 0) - 1))
set_option maxRecDepth 20000 in
theorem c_X9_isOne {K : KT} {M : MT} {a0 : Int32}   : CM K 2 yX9_isOne cX9_isOne 2 (some FieldType.boolean) [rf K 140, .int a0] M (some (.int (bz (sp_X9_isOne M a0)))) M := by
  refine CM.ofZ (by decide) [some (rf K 140), some (.int a0)] rfl (Nat.le_of_ble_eq_true rfl) (Nat.le_of_ble_eq_true rfl) (fun G hG _ hret => ?_)
  refine r_iload_n (pc := 0) hG dX9_isOne_0 rfl ?_
  refine r_iconst (pc := 1) hG dX9_isOne_1 ic_0 ?_
  refine r_aload_n (pc := 2) hG dX9_isOne_2 rfl ?_
  refine gf_X9_people (pc := 3)  hG dX9_isOne_3 tw_1173 ?_
  refine r_iconst (pc := 6) hG dX9_isOne_6 ic_1 ?_
  refine r_isub (pc := 7) hG dX9_isOne_7 ?_
  refine cs_X9_within (pc := 8)  hG dX9_isOne_8 tw_1270 (c_X9_within) (by decide) (Nat.le_of_ble_eq_true rfl) ?_
  exact hret _ _ _ _ dX9_isOne_11 (bz_e (by unfold sp_X9_isOne; exact rfl)) rfl

def sp_X9_isThrow (M : MT) (a0 : Int32) (a1 : Int32) (a2 : Int32) : Bool :=
  if (sp_X9_isWindow M a0) = true then
    if (sp_X9_within a1 0 9) = true then
      if (sp_X9_within a2 0 2) = true then
        true
      else
        false
    else
      false
  else
    false
set_option maxRecDepth 20000 in
theorem c_X9_isThrow {K : KT} {M : MT} {a0 : Int32} {a1 : Int32} {a2 : Int32}   : CM K 3 yX9_isThrow cX9_isThrow 4 (some FieldType.boolean) [rf K 140, .int a0, .int a1, .int a2] M (some (.int (bz (sp_X9_isThrow M a0 a1 a2)))) M := by
  refine CM.ofZ (by decide) [some (rf K 140), some (.int a0), some (.int a1), some (.int a2)] rfl (Nat.le_of_ble_eq_true rfl) (Nat.le_of_ble_eq_true rfl) (fun G hG _ hret => ?_)
  refine r_aload_n (pc := 0) hG dX9_isThrow_0 rfl ?_
  refine r_iload_n (pc := 1) hG dX9_isThrow_1 rfl ?_
  refine cv_X9_isWindow (pc := 2)  hG dX9_isThrow_2 tw_1430 (c_X9_isWindow) (by decide) (Nat.le_of_ble_eq_true rfl) ?_
  refine r_ifz_eq (pc := 5) (tgt := 31) hG dX9_isThrow_5 (by decide) (fun c1 => ?_) (fun c1 => ?_)
  · refine r_iconst (pc := 31) hG dX9_isThrow_31 ic_0 ?_
    exact hret _ _ _ _ dX9_isThrow_32 (bz_f (by unfold sp_X9_isThrow; exact (if_neg c1))) rfl
  · refine r_iload_n (pc := 8) hG dX9_isThrow_8 rfl ?_
    refine r_iconst (pc := 9) hG dX9_isThrow_9 ic_0 ?_
    refine r_bipush (pc := 10) hG dX9_isThrow_10 bc_9 ?_
    refine cs_X9_within (pc := 12)  hG dX9_isThrow_12 tw_1270 (c_X9_within) (by decide) (Nat.le_of_ble_eq_true rfl) ?_
    refine r_ifz_eq (pc := 15) (tgt := 31) hG dX9_isThrow_15 (by decide) (fun c2 => ?_) (fun c2 => ?_)
    · refine r_iconst (pc := 31) hG dX9_isThrow_31 ic_0 ?_
      exact hret _ _ _ _ dX9_isThrow_32 (bz_f (by unfold sp_X9_isThrow; exact ((if_pos c1).trans (if_neg c2)))) rfl
    · refine r_iload_n (pc := 18) hG dX9_isThrow_18 rfl ?_
      refine r_iconst (pc := 19) hG dX9_isThrow_19 ic_0 ?_
      refine r_iconst (pc := 20) hG dX9_isThrow_20 ic_2 ?_
      refine cs_X9_within (pc := 21)  hG dX9_isThrow_21 tw_1270 (c_X9_within) (by decide) (Nat.le_of_ble_eq_true rfl) ?_
      refine r_ifz_eq (pc := 24) (tgt := 31) hG dX9_isThrow_24 (by decide) (fun c3 => ?_) (fun c3 => ?_)
      · refine r_iconst (pc := 31) hG dX9_isThrow_31 ic_0 ?_
        exact hret _ _ _ _ dX9_isThrow_32 (bz_f (by unfold sp_X9_isThrow; exact ((if_pos c1).trans ((if_pos c2).trans (if_neg c3))))) rfl
      · refine r_iconst (pc := 27) hG dX9_isThrow_27 ic_1 ?_
        refine r_goto (pc := 28) (tgt := 32) hG dX9_isThrow_28 (by decide) ?_
        exact hret _ _ _ _ dX9_isThrow_32 (bz_t (by unfold sp_X9_isThrow; exact ((if_pos c1).trans ((if_pos c2).trans (if_pos c3))))) rfl

theorem hasW5 {M : MT} {a : Int32} (h : bd (M.1 5 0 0) 9) (c : sp_X9_isWindow M a = true) : bd a 8 := by
  unfold sp_X9_isWindow at c
  have := within_iff.mp (w98 ▸ c)
  exact (bd_of h this.1 this.2).1
theorem hasWt5 {M : MT} {a : Int32} (h : bd (M.1 5 0 0) 9) (c : sp_X9_isWindow M a = true) : tn a < tn (M.1 5 0 0) := by
  unfold sp_X9_isWindow at c
  have := within_iff.mp (w98 ▸ c)
  exact (bd_of h this.1 this.2).2
theorem hasP5 {M : MT} {a : Int32} (h : bd (M.1 5 1 0) 9) (c : sp_X9_isOne M a = true) : bd a 8 := by
  unfold sp_X9_isOne at c
  have := within_iff.mp (w98 ▸ c)
  exact (bd_of h this.1 this.2).1
theorem hasPt5 {M : MT} {a : Int32} (h : bd (M.1 5 1 0) 9) (c : sp_X9_isOne M a = true) : tn a < tn (M.1 5 1 0) := by
  unfold sp_X9_isOne at c
  have := within_iff.mp (w98 ▸ c)
  exact (bd_of h this.1 this.2).2
theorem hasC5 {M : MT} {a : Int32} (h : bd (M.1 5 2 0) 31) (c : sp_X9_isCell M a = true) : bd a 30 ∧ tn a < tn (M.1 5 2 0) := by
  unfold sp_X9_isCell at c
  have := within_iff.mp (w98 ▸ c)
  exact bd_of h this.1 this.2
theorem isSh5 {a : Int32} (c : sp_X9_isShelf a = true) : bd a 8 := by
  unfold sp_X9_isShelf at c
  have := within_iff.mp (w98 ▸ c)
  exact bd_in (m := 7) this.1 this.2 (by omega) (by omega)
theorem isThr5 {M : MT} {a b c : Int32} (h : bd (M.1 5 0 0) 9) (q : sp_X9_isThrow M a b c = true) : bd a 8 := by
  unfold sp_X9_isThrow at q
  split at q
  · rename_i z; exact hasW5 h z
  · cases q
theorem wi5_bd {a : Int32} {n : Nat} {x : Int32} (c : sp_X9_within a 0 x = true) (hx : x = nI n) (hn : n < 2147483648) : bd a (n + 1) := by
  have := within_iff.mp (w98 ▸ c)
  exact bd_in (m := n) this.1 (by rw [← hx]; exact this.2) hn (by omega)
theorem ne8 {x : Int32} (h : bd x 9) (q : ¬ x = 8) : bd x 8 := by
  have hl := bd_lt h
  rw [bd_eq h] at q ⊢
  have : ¬ tn x = 8 := fun z => q (by rw [z]; rfl)
  exact bd_nI (by omega) (by omega)
theorem row_ix {a : Int32} {i : Nat} (ha : bd a 8) (hi : i < 40) : bd (40 * a + nI i) 320 := by
  have hl := bd_lt ha
  have e : (40 : Int32) * a = nI (40 * tn a) := (congrArg (fun z => (40 : Int32) * z) (bd_eq ha)).trans (Int32.ofNat_mul 40 _).symm
  rw [e, show nI (40 * tn a) + nI i = nI (40 * tn a + i) from nI_add _ _]
  exact bd_nI (by omega) (by omega)
theorem row_ix2 {a b : Int32} (ha : bd a 8) (hb : bd b 40) : bd (40 * a + b) 320 := by
  rw [bd_eq hb]
  exact row_ix ha (bd_lt hb)
theorem add_ix {a i n k : Nat} (h : i < n) (hk : a + n ≤ k) (hk2 : k ≤ 1000) : bd (nI a + nI i) k := by
  rw [show nI a + nI i = nI (a + i) from nI_add _ _]
  exact bd_nI (by omega) (by omega)
theorem in_lt {i x : Int32} {n : Nat} (hx : bd x (n + 1)) (c : sp_X9_within i 0 (x - 1) = true) : bd i n := by
  have := within_iff.mp (w98 ▸ c)
  exact (bd_of hx this.1 this.2).1

def sp_X9_no (M : MT) (a0 : Int32) : Int32 × MT :=
  (a0, u2 M 34 (tn (-a0)) ((M.2.1 34 (tn (-a0))) + 1))
set_option maxRecDepth 20000 in
theorem c_X9_no {K : KT} {M : MT} {a0 : Int32}  (hr : bd (-a0) 7) : CM K 1 yX9_no cX9_no 2 (some FieldType.int) [rf K 140, .int a0] M (some (.int (sp_X9_no M a0).1)) (sp_X9_no M a0).2 := by
  refine CM.ofI (by decide) [some (rf K 140), some (.int a0)] rfl (Nat.le_of_ble_eq_true rfl) (Nat.le_of_ble_eq_true rfl) (fun G hG _ hret => ?_)
  refine r_aload_n (pc := 0) hG dX9_no_0 rfl ?_
  refine gf_X9_refusals (pc := 1)  hG dX9_no_1 tw_1189 ?_
  refine r_iload_n (pc := 4) hG dX9_no_4 rfl ?_
  refine r_ineg (pc := 5) hG dX9_no_5 ?_
  refine r_dup2 (pc := 6) hG dX9_no_6 rfl rfl ?_
  refine al_Mrefusals (pc := 7)  hG dX9_no_7 (ix_bd hr) ?_
  refine r_iconst (pc := 8) hG dX9_no_8 ic_1 ?_
  refine r_iadd (pc := 9) hG dX9_no_9 ?_
  refine as_Mrefusals (pc := 10)  hG dX9_no_10 (ix_bd hr) ?_
  refine r_iload_n (pc := 11) hG dX9_no_11 rfl ?_
  exact hret _ _ _ _ dX9_no_12 (pair_fst (show sp_X9_no M a0 = (a0, u2 M 34 (tn (-a0)) ((M.2.1 34 (tn (-a0))) + 1)) from (by unfold sp_X9_no; exact rfl))) (pair_snd (show sp_X9_no M a0 = (a0, u2 M 34 (tn (-a0)) ((M.2.1 34 (tn (-a0))) + 1)) from (by unfold sp_X9_no; exact rfl)))

def sp_X9_isRow (M : MT) (a0 : Int32) : Bool :=
  (sp_X9_within (M.2.1 32 (tn a0)) 0 4)
set_option maxRecDepth 20000 in
theorem c_X9_isRow {K : KT} {M : MT} {a0 : Int32}  (ha0b : bd (a0) 8) : CM K 2 yX9_isRow cX9_isRow 2 (some FieldType.boolean) [rf K 140, .int a0] M (some (.int (bz (sp_X9_isRow M a0)))) M := by
  refine CM.ofZ (by decide) [some (rf K 140), some (.int a0)] rfl (Nat.le_of_ble_eq_true rfl) (Nat.le_of_ble_eq_true rfl) (fun G hG _ hret => ?_)
  refine r_aload_n (pc := 0) hG dX9_isRow_0 rfl ?_
  refine gf_X9_holding (pc := 1)  hG dX9_isRow_1 tw_1186 ?_
  refine r_iload_n (pc := 4) hG dX9_isRow_4 rfl ?_
  refine al_Mholding (pc := 5)  hG dX9_isRow_5 (ix_bd ha0b) ?_
  refine r_iconst (pc := 6) hG dX9_isRow_6 ic_0 ?_
  refine r_iconst (pc := 7) hG dX9_isRow_7 ic_4 ?_
  refine cs_X9_within (pc := 8)  hG dX9_isRow_8 tw_1270 (c_X9_within) (by decide) (Nat.le_of_ble_eq_true rfl) ?_
  exact hret _ _ _ _ dX9_isRow_11 (bz_e (by unfold sp_X9_isRow; exact rfl)) rfl

def sp_X9_noRow (M : MT) (a0 : Int32) : Int32 :=
  if (M.2.1 32 (tn a0)) < 10 then
    if 0 ≤ (M.2.1 32 (tn a0)) then
      0
    else
      (-4)
  else
    (-3)
set_option maxRecDepth 20000 in
theorem c_X9_noRow {K : KT} {M : MT} {a0 : Int32}  (ha0b : bd (a0) 8) : CM K 1 yX9_noRow cX9_noRow 2 (some FieldType.int) [rf K 140, .int a0] M (some (.int (sp_X9_noRow M a0))) M := by
  refine CM.ofI (by decide) [some (rf K 140), some (.int a0)] rfl (Nat.le_of_ble_eq_true rfl) (Nat.le_of_ble_eq_true rfl) (fun G hG _ hret => ?_)
  refine r_aload_n (pc := 0) hG dX9_noRow_0 rfl ?_
  refine gf_X9_holding (pc := 1)  hG dX9_noRow_1 tw_1186 ?_
  refine r_iload_n (pc := 4) hG dX9_noRow_4 rfl ?_
  refine al_Mholding (pc := 5)  hG dX9_noRow_5 (ix_bd ha0b) ?_
  refine r_bipush (pc := 6) hG dX9_noRow_6 bc_10 ?_
  refine r_icmp_lt (pc := 8) (tgt := 16) hG dX9_noRow_8 (by decide) (fun c1 => ?_) (fun c1 => ?_)
  · refine r_aload_n (pc := 16) hG dX9_noRow_16 rfl ?_
    refine gf_X9_holding (pc := 17)  hG dX9_noRow_17 tw_1186 ?_
    refine r_iload_n (pc := 20) hG dX9_noRow_20 rfl ?_
    refine al_Mholding (pc := 21)  hG dX9_noRow_21 (ix_bd ha0b) ?_
    refine r_if_ge (pc := 22) (tgt := 30) hG dX9_noRow_22 (by decide) (fun c2 => ?_) (fun c2 => ?_)
    · refine r_iconst (pc := 30) hG dX9_noRow_30 ic_0 ?_
      exact hret _ _ _ _ dX9_noRow_31 (Eq.symm (by unfold sp_X9_noRow; exact ((if_pos c1).trans (if_pos c2)))) rfl
    · refine r_bipush (pc := 25) hG dX9_noRow_25 bc_m4 ?_
      refine r_goto (pc := 27) (tgt := 31) hG dX9_noRow_27 (by decide) ?_
      exact hret _ _ _ _ dX9_noRow_31 (Eq.symm (by unfold sp_X9_noRow; exact ((if_pos c1).trans (if_neg c2)))) rfl
  · refine r_bipush (pc := 11) hG dX9_noRow_11 bc_m3 ?_
    refine r_goto (pc := 13) (tgt := 31) hG dX9_noRow_13 (by decide) ?_
    exact hret _ _ _ _ dX9_noRow_31 (Eq.symm (by unfold sp_X9_noRow; exact (if_neg c1))) rfl

def sp_X9_kept (a0 : Int32) (a1 : Int64) : Int64 :=
  if a0 = 0 then
    Int32.toInt64 (Int8.toInt32 (Int32.toInt8 (Int64.toInt32 a1)))
  else
    if a0 = 1 then
      Int32.toInt64 (Int16.toInt32 (Int32.toInt16 (Int64.toInt32 a1)))
    else
      if a0 = 2 then
        Int32.toInt64 (Int64.toInt32 a1)
      else
        if a0 = 3 then
          a1
        else
          if a1 = 0 then
            0
          else
            1
set_option maxRecDepth 20000 in
theorem c_X9_kept {K : KT} {M : MT} {a0 : Int32} {a1 : Int64}   : CM K 1 yX9_kept cX9_kept 3 (some FieldType.long) [.int a0, .long a1] M (some (.long (sp_X9_kept a0 a1))) M := by
  refine CM.ofL (by decide) [some (.int a0), some (.long a1), none] rfl (Nat.le_of_ble_eq_true rfl) (Nat.le_of_ble_eq_true rfl) (fun G hG _ hret => ?_)
  refine r_iload_n (pc := 0) hG dX9_kept_0 rfl ?_
  by_cases c1 : a0 = 0
  · refine r_tableIn (pc := 1) (tgt := 32) (off := 31) hG dX9_kept_1 (by rw [c1]; decide) (by rw [c1]; decide) (by rw [c1]; rfl) (by decide) ?_
    refine r_lload_n (pc := 32) hG dX9_kept_32 rfl ?_
    refine r_l2i (pc := 33) hG dX9_kept_33 ?_
    refine r_i2b (pc := 34) hG dX9_kept_34 ?_
    refine r_i2l (pc := 35) hG dX9_kept_35 ?_
    exact hret _ _ _ _ dX9_kept_36 (Eq.symm (by unfold sp_X9_kept; exact (if_pos c1))) rfl
  · by_cases c2 : a0 = 1
    · refine r_tableIn (pc := 1) (tgt := 37) (off := 36) hG dX9_kept_1 (by rw [c2]; decide) (by rw [c2]; decide) (by rw [c2]; rfl) (by decide) ?_
      refine r_lload_n (pc := 37) hG dX9_kept_37 rfl ?_
      refine r_l2i (pc := 38) hG dX9_kept_38 ?_
      refine r_i2s (pc := 39) hG dX9_kept_39 ?_
      refine r_i2l (pc := 40) hG dX9_kept_40 ?_
      exact hret _ _ _ _ dX9_kept_41 (Eq.symm (by unfold sp_X9_kept; exact ((if_neg c1).trans (if_pos c2)))) rfl
    · by_cases c3 : a0 = 2
      · refine r_tableIn (pc := 1) (tgt := 42) (off := 41) hG dX9_kept_1 (by rw [c3]; decide) (by rw [c3]; decide) (by rw [c3]; rfl) (by decide) ?_
        refine r_lload_n (pc := 42) hG dX9_kept_42 rfl ?_
        refine r_l2i (pc := 43) hG dX9_kept_43 ?_
        refine r_i2l (pc := 44) hG dX9_kept_44 ?_
        exact hret _ _ _ _ dX9_kept_45 (Eq.symm (by unfold sp_X9_kept; exact ((if_neg c1).trans ((if_neg c2).trans (if_pos c3))))) rfl
      · by_cases c4 : a0 = 3
        · refine r_tableIn (pc := 1) (tgt := 46) (off := 45) hG dX9_kept_1 (by rw [c4]; decide) (by rw [c4]; decide) (by rw [c4]; rfl) (by decide) ?_
          refine r_lload_n (pc := 46) hG dX9_kept_46 rfl ?_
          exact hret _ _ _ _ dX9_kept_47 (Eq.symm (by unfold sp_X9_kept; exact ((if_neg c1).trans ((if_neg c2).trans ((if_neg c3).trans (if_pos c4)))))) rfl
        · have nc1 : Int32.toInt a0 ≠ 0 := fun q => c1 (Int32.toInt_inj.mp q)
          have nc2 : Int32.toInt a0 ≠ 1 := fun q => c2 (Int32.toInt_inj.mp q)
          have nc3 : Int32.toInt a0 ≠ 2 := fun q => c3 (Int32.toInt_inj.mp q)
          have nc4 : Int32.toInt a0 ≠ 3 := fun q => c4 (Int32.toInt_inj.mp q)
          refine r_tableOut (pc := 1) (tgt := 48) hG dX9_kept_1 (by omega) (by decide) ?_
          refine r_lload_n (pc := 48) hG dX9_kept_48 rfl ?_
          refine r_lconst (pc := 49) (v := 0) hG dX9_kept_49 (by decide) ?_
          refine r_lcmp (pc := 50) hG dX9_kept_50 ?_
          refine r_lc_eq (pc := 51) (tgt := 58) hG dX9_kept_51 (by decide) (fun c5 => ?_) (fun c5 => ?_)
          · refine r_lconst (pc := 58) (v := 0) hG dX9_kept_58 (by decide) ?_
            exact hret _ _ _ _ dX9_kept_59 (Eq.symm (by unfold sp_X9_kept; exact ((if_neg c1).trans ((if_neg c2).trans ((if_neg c3).trans ((if_neg c4).trans (if_pos c5))))))) rfl
          · refine r_lconst (pc := 54) (v := 1) hG dX9_kept_54 (by decide) ?_
            refine r_goto (pc := 55) (tgt := 59) hG dX9_kept_55 (by decide) ?_
            exact hret _ _ _ _ dX9_kept_59 (Eq.symm (by unfold sp_X9_kept; exact ((if_neg c1).trans ((if_neg c2).trans ((if_neg c3).trans ((if_neg c4).trans (if_neg c5))))))) rfl

def sp_X9_isUnder (a0 : Int32) (a1 : Int32) : Bool :=
  if a1 = 0 then
    true
  else
    if a0 = a1 then
      true
    else
      if a0 = 3 then
        if a1 = 1 then
          true
        else
          if a0 = 4 then
            if a1 = 2 then
              true
            else
              false
          else
            false
      else
        if a0 = 4 then
          if a1 = 2 then
            true
          else
            false
        else
          false
set_option maxRecDepth 20000 in
theorem c_X9_isUnder {K : KT} {M : MT} {a0 : Int32} {a1 : Int32}   : CM K 1 yX9_isUnder cX9_isUnder 2 (some FieldType.boolean) [.int a0, .int a1] M (some (.int (bz (sp_X9_isUnder a0 a1)))) M := by
  refine CM.ofZ (by decide) [some (.int a0), some (.int a1)] rfl (Nat.le_of_ble_eq_true rfl) (Nat.le_of_ble_eq_true rfl) (fun G hG _ hret => ?_)
  refine r_iload_n (pc := 0) hG dX9_isUnder_0 rfl ?_
  refine r_if_eq (pc := 1) (tgt := 29) hG dX9_isUnder_1 (by decide) (fun c1 => ?_) (fun c1 => ?_)
  · refine r_iconst (pc := 29) hG dX9_isUnder_29 ic_1 ?_
    refine r_goto (pc := 30) (tgt := 34) hG dX9_isUnder_30 (by decide) ?_
    exact hret _ _ _ _ dX9_isUnder_34 (bz_t (by unfold sp_X9_isUnder; exact (if_pos c1))) rfl
  · refine r_iload_n (pc := 4) hG dX9_isUnder_4 rfl ?_
    refine r_iload_n (pc := 5) hG dX9_isUnder_5 rfl ?_
    refine r_icmp_eq (pc := 6) (tgt := 29) hG dX9_isUnder_6 (by decide) (fun c2 => ?_) (fun c2 => ?_)
    · refine r_iconst (pc := 29) hG dX9_isUnder_29 ic_1 ?_
      refine r_goto (pc := 30) (tgt := 34) hG dX9_isUnder_30 (by decide) ?_
      exact hret _ _ _ _ dX9_isUnder_34 (bz_t (by unfold sp_X9_isUnder; exact ((if_neg c1).trans (if_pos c2)))) rfl
    · refine r_iload_n (pc := 9) hG dX9_isUnder_9 rfl ?_
      refine r_iconst (pc := 10) hG dX9_isUnder_10 ic_3 ?_
      refine r_icmp_ne (pc := 11) (tgt := 19) hG dX9_isUnder_11 (by decide) (fun c3 => ?_) (fun c3 => ?_)
      · refine r_iload_n (pc := 19) hG dX9_isUnder_19 rfl ?_
        refine r_iconst (pc := 20) hG dX9_isUnder_20 ic_4 ?_
        refine r_icmp_ne (pc := 21) (tgt := 33) hG dX9_isUnder_21 (by decide) (fun c4 => ?_) (fun c4 => ?_)
        · refine r_iconst (pc := 33) hG dX9_isUnder_33 ic_0 ?_
          exact hret _ _ _ _ dX9_isUnder_34 (bz_f (by unfold sp_X9_isUnder; exact ((if_neg c1).trans ((if_neg c2).trans ((if_neg c3).trans (if_neg c4)))))) rfl
        · refine r_iload_n (pc := 24) hG dX9_isUnder_24 rfl ?_
          refine r_iconst (pc := 25) hG dX9_isUnder_25 ic_2 ?_
          refine r_icmp_ne (pc := 26) (tgt := 33) hG dX9_isUnder_26 (by decide) (fun c5 => ?_) (fun c5 => ?_)
          · refine r_iconst (pc := 33) hG dX9_isUnder_33 ic_0 ?_
            exact hret _ _ _ _ dX9_isUnder_34 (bz_f (by unfold sp_X9_isUnder; exact ((if_neg c1).trans ((if_neg c2).trans ((if_neg c3).trans ((if_pos c4).trans (if_neg c5))))))) rfl
          · refine r_iconst (pc := 29) hG dX9_isUnder_29 ic_1 ?_
            refine r_goto (pc := 30) (tgt := 34) hG dX9_isUnder_30 (by decide) ?_
            exact hret _ _ _ _ dX9_isUnder_34 (bz_t (by unfold sp_X9_isUnder; exact ((if_neg c1).trans ((if_neg c2).trans ((if_neg c3).trans ((if_pos c4).trans (if_pos c5))))))) rfl
      · refine r_iload_n (pc := 14) hG dX9_isUnder_14 rfl ?_
        refine r_iconst (pc := 15) hG dX9_isUnder_15 ic_1 ?_
        refine r_icmp_eq (pc := 16) (tgt := 29) hG dX9_isUnder_16 (by decide) (fun c6 => ?_) (fun c6 => ?_)
        · refine r_iconst (pc := 29) hG dX9_isUnder_29 ic_1 ?_
          refine r_goto (pc := 30) (tgt := 34) hG dX9_isUnder_30 (by decide) ?_
          exact hret _ _ _ _ dX9_isUnder_34 (bz_t (by unfold sp_X9_isUnder; exact ((if_neg c1).trans ((if_neg c2).trans ((if_pos c3).trans (if_pos c6)))))) rfl
        · refine r_iload_n (pc := 19) hG dX9_isUnder_19 rfl ?_
          refine r_iconst (pc := 20) hG dX9_isUnder_20 ic_4 ?_
          refine r_icmp_ne (pc := 21) (tgt := 33) hG dX9_isUnder_21 (by decide) (fun c7 => ?_) (fun c7 => ?_)
          · refine r_iconst (pc := 33) hG dX9_isUnder_33 ic_0 ?_
            exact hret _ _ _ _ dX9_isUnder_34 (bz_f (by unfold sp_X9_isUnder; exact ((if_neg c1).trans ((if_neg c2).trans ((if_pos c3).trans ((if_neg c6).trans (if_neg c7))))))) rfl
          · refine r_iload_n (pc := 24) hG dX9_isUnder_24 rfl ?_
            refine r_iconst (pc := 25) hG dX9_isUnder_25 ic_2 ?_
            refine r_icmp_ne (pc := 26) (tgt := 33) hG dX9_isUnder_26 (by decide) (fun c8 => ?_) (fun c8 => ?_)
            · refine r_iconst (pc := 33) hG dX9_isUnder_33 ic_0 ?_
              exact hret _ _ _ _ dX9_isUnder_34 (bz_f (by unfold sp_X9_isUnder; exact ((if_neg c1).trans ((if_neg c2).trans ((if_pos c3).trans ((if_neg c6).trans ((if_pos c7).trans (if_neg c8)))))))) rfl
            · refine r_iconst (pc := 29) hG dX9_isUnder_29 ic_1 ?_
              refine r_goto (pc := 30) (tgt := 34) hG dX9_isUnder_30 (by decide) ?_
              exact hret _ _ _ _ dX9_isUnder_34 (bz_t (by unfold sp_X9_isUnder; exact ((if_neg c1).trans ((if_neg c2).trans ((if_pos c3).trans ((if_neg c6).trans ((if_pos c7).trans (if_pos c8)))))))) rfl

def sp_X9_isLetter (a0 : Int32) : Bool :=
  if a0 < 97 then
    false
  else
    if 122 < a0 then
      false
    else
      true
set_option maxRecDepth 20000 in
theorem c_X9_isLetter {K : KT} {M : MT} {a0 : Int32}   : CM K 1 yX9_isLetter cX9_isLetter 1 (some FieldType.boolean) [.int a0] M (some (.int (bz (sp_X9_isLetter a0)))) M := by
  refine CM.ofZ (by decide) [some (.int a0)] rfl (Nat.le_of_ble_eq_true rfl) (Nat.le_of_ble_eq_true rfl) (fun G hG _ hret => ?_)
  refine r_iload_n (pc := 0) hG dX9_isLetter_0 rfl ?_
  refine r_bipush (pc := 1) hG dX9_isLetter_1 bc_97 ?_
  refine r_icmp_lt (pc := 3) (tgt := 16) hG dX9_isLetter_3 (by decide) (fun c1 => ?_) (fun c1 => ?_)
  · refine r_iconst (pc := 16) hG dX9_isLetter_16 ic_0 ?_
    exact hret _ _ _ _ dX9_isLetter_17 (bz_f (by unfold sp_X9_isLetter; exact (if_pos c1))) rfl
  · refine r_iload_n (pc := 6) hG dX9_isLetter_6 rfl ?_
    refine r_bipush (pc := 7) hG dX9_isLetter_7 bc_122 ?_
    refine r_icmp_gt (pc := 9) (tgt := 16) hG dX9_isLetter_9 (by decide) (fun c2 => ?_) (fun c2 => ?_)
    · refine r_iconst (pc := 16) hG dX9_isLetter_16 ic_0 ?_
      exact hret _ _ _ _ dX9_isLetter_17 (bz_f (by unfold sp_X9_isLetter; exact ((if_neg c1).trans (if_pos c2)))) rfl
    · refine r_iconst (pc := 12) hG dX9_isLetter_12 ic_1 ?_
      refine r_goto (pc := 13) (tgt := 17) hG dX9_isLetter_13 (by decide) ?_
      exact hret _ _ _ _ dX9_isLetter_17 (bz_t (by unfold sp_X9_isLetter; exact ((if_neg c1).trans (if_neg c2)))) rfl

def sp_X9_isDigit (a0 : Int32) : Bool :=
  if a0 < 48 then
    false
  else
    if 57 < a0 then
      false
    else
      true
set_option maxRecDepth 20000 in
theorem c_X9_isDigit {K : KT} {M : MT} {a0 : Int32}   : CM K 1 yX9_isDigit cX9_isDigit 1 (some FieldType.boolean) [.int a0] M (some (.int (bz (sp_X9_isDigit a0)))) M := by
  refine CM.ofZ (by decide) [some (.int a0)] rfl (Nat.le_of_ble_eq_true rfl) (Nat.le_of_ble_eq_true rfl) (fun G hG _ hret => ?_)
  refine r_iload_n (pc := 0) hG dX9_isDigit_0 rfl ?_
  refine r_bipush (pc := 1) hG dX9_isDigit_1 bc_48 ?_
  refine r_icmp_lt (pc := 3) (tgt := 16) hG dX9_isDigit_3 (by decide) (fun c1 => ?_) (fun c1 => ?_)
  · refine r_iconst (pc := 16) hG dX9_isDigit_16 ic_0 ?_
    exact hret _ _ _ _ dX9_isDigit_17 (bz_f (by unfold sp_X9_isDigit; exact (if_pos c1))) rfl
  · refine r_iload_n (pc := 6) hG dX9_isDigit_6 rfl ?_
    refine r_bipush (pc := 7) hG dX9_isDigit_7 bc_57 ?_
    refine r_icmp_gt (pc := 9) (tgt := 16) hG dX9_isDigit_9 (by decide) (fun c2 => ?_) (fun c2 => ?_)
    · refine r_iconst (pc := 16) hG dX9_isDigit_16 ic_0 ?_
      exact hret _ _ _ _ dX9_isDigit_17 (bz_f (by unfold sp_X9_isDigit; exact ((if_neg c1).trans (if_pos c2)))) rfl
    · refine r_iconst (pc := 12) hG dX9_isDigit_12 ic_1 ?_
      refine r_goto (pc := 13) (tgt := 17) hG dX9_isDigit_13 (by decide) ?_
      exact hret _ _ _ _ dX9_isDigit_17 (bz_t (by unfold sp_X9_isDigit; exact ((if_neg c1).trans (if_neg c2)))) rfl

def sp_X9_landing (M : MT) (a0 : Int32) (a1 : Int32) (a2 : Int32) : Int32 :=
  if a2 = 0 then
    if a2 = 2 then
      if (sp_X9_isCell M ((((M.1 5 6 (tn a0)) + (-0)) + (M.1 5 3 0)) - 5)) = true then
        (((M.1 5 6 (tn a0)) + (-0)) + (M.1 5 3 0)) - 5
      else
        (-1)
    else
      if (sp_X9_isCell M ((((M.1 5 6 (tn a0)) + 0) + (M.1 5 3 0)) - 5)) = true then
        (((M.1 5 6 (tn a0)) + 0) + (M.1 5 3 0)) - 5
      else
        (-1)
  else
    if a2 = 2 then
      if (sp_X9_isCell M ((((M.1 5 6 (tn a0)) + (-((a1 * (M.1 5 7 (tn a0))) / 3))) + (M.1 5 3 0)) - 5)) = true then
        (((M.1 5 6 (tn a0)) + (-((a1 * (M.1 5 7 (tn a0))) / 3))) + (M.1 5 3 0)) - 5
      else
        (-1)
    else
      if (sp_X9_isCell M ((((M.1 5 6 (tn a0)) + ((a1 * (M.1 5 7 (tn a0))) / 3)) + (M.1 5 3 0)) - 5)) = true then
        (((M.1 5 6 (tn a0)) + ((a1 * (M.1 5 7 (tn a0))) / 3)) + (M.1 5 3 0)) - 5
      else
        (-1)
set_option maxRecDepth 20000 in
theorem c_X9_landing {K : KT} {M : MT} {a0 : Int32} {a1 : Int32} {a2 : Int32}  (ha0b : bd (a0) 8) : CM K 3 yX9_landing cX9_landing 6 (some FieldType.int) [rf K 140, .int a0, .int a1, .int a2] M (some (.int (sp_X9_landing M a0 a1 a2))) M := by
  refine CM.ofI (by decide) [some (rf K 140), some (.int a0), some (.int a1), some (.int a2), none, none] rfl (Nat.le_of_ble_eq_true rfl) (Nat.le_of_ble_eq_true rfl) (fun G hG _ hret => ?_)
  refine r_iload_n (pc := 0) hG dX9_landing_0 rfl ?_
  refine r_if_ne (pc := 1) (tgt := 8) hG dX9_landing_1 (by decide) (fun c1 => ?_) (fun c1 => ?_)
  · refine r_iload_n (pc := 8) hG dX9_landing_8 rfl ?_
    refine r_aload_n (pc := 9) hG dX9_landing_9 rfl ?_
    refine gf_X9_floor (pc := 10)  hG dX9_landing_10 tw_1171 ?_
    refine r_iload_n (pc := 13) hG dX9_landing_13 rfl ?_
    refine al_Mfloor (pc := 14)  hG dX9_landing_14 (ix_bd ha0b) ?_
    refine r_imul (pc := 15) hG dX9_landing_15 ?_
    refine r_iconst (pc := 16) hG dX9_landing_16 ic_3 ?_
    refine r_idiv (pc := 17) hG dX9_landing_17 (by decide) ?_
    refine r_istore (pc := 18) (ls' := [_, _, _, _, _, _]) hG dX9_landing_18 rfl rfl ?_
    refine r_aload_n (pc := 20) hG dX9_landing_20 rfl ?_
    refine gf_X9_at (pc := 21)  hG dX9_landing_21 tw_1170 ?_
    refine r_iload_n (pc := 24) hG dX9_landing_24 rfl ?_
    refine al_Mat (pc := 25)  hG dX9_landing_25 (ix_bd ha0b) ?_
    refine r_iload_n (pc := 26) hG dX9_landing_26 rfl ?_
    refine r_iconst (pc := 27) hG dX9_landing_27 ic_2 ?_
    refine r_icmp_ne (pc := 28) (tgt := 37) hG dX9_landing_28 (by decide) (fun c2 => ?_) (fun c2 => ?_)
    · refine r_iload (pc := 37) hG dX9_landing_37 rfl ?_
      refine r_iadd (pc := 39) hG dX9_landing_39 ?_
      refine r_aload_n (pc := 40) hG dX9_landing_40 rfl ?_
      refine gf_X9_ways (pc := 41)  hG dX9_landing_41 tw_1167 ?_
      refine r_iconst (pc := 44) hG dX9_landing_44 ic_0 ?_
      refine al_Mways (pc := 45)  hG dX9_landing_45 (ix_lit (j := 0) (by decide)) ?_
      refine r_iadd (pc := 46) hG dX9_landing_46 ?_
      refine r_iconst (pc := 47) hG dX9_landing_47 ic_5 ?_
      refine r_isub (pc := 48) hG dX9_landing_48 ?_
      refine r_istore (pc := 49) (ls' := [_, _, _, _, _, _]) hG dX9_landing_49 rfl rfl ?_
      refine r_aload_n (pc := 51) hG dX9_landing_51 rfl ?_
      refine r_iload (pc := 52) hG dX9_landing_52 rfl ?_
      refine cv_X9_isCell (pc := 54)  hG dX9_landing_54 tw_1331 (c_X9_isCell) (by decide) (Nat.le_of_ble_eq_true rfl) ?_
      refine r_ifz_eq (pc := 57) (tgt := 65) hG dX9_landing_57 (by decide) (fun c3 => ?_) (fun c3 => ?_)
      · refine r_iconst (pc := 65) hG dX9_landing_65 ic_m1 ?_
        exact hret _ _ _ _ dX9_landing_66 (Eq.symm (by unfold sp_X9_landing; exact ((if_neg c1).trans ((if_neg c2).trans (if_neg c3))))) rfl
      · refine r_iload (pc := 60) hG dX9_landing_60 rfl ?_
        refine r_goto (pc := 62) (tgt := 66) hG dX9_landing_62 (by decide) ?_
        exact hret _ _ _ _ dX9_landing_66 (Eq.symm (by unfold sp_X9_landing; exact ((if_neg c1).trans ((if_neg c2).trans (if_pos c3))))) rfl
    · refine r_iload (pc := 31) hG dX9_landing_31 rfl ?_
      refine r_ineg (pc := 33) hG dX9_landing_33 ?_
      refine r_goto (pc := 34) (tgt := 39) hG dX9_landing_34 (by decide) ?_
      refine r_iadd (pc := 39) hG dX9_landing_39 ?_
      refine r_aload_n (pc := 40) hG dX9_landing_40 rfl ?_
      refine gf_X9_ways (pc := 41)  hG dX9_landing_41 tw_1167 ?_
      refine r_iconst (pc := 44) hG dX9_landing_44 ic_0 ?_
      refine al_Mways (pc := 45)  hG dX9_landing_45 (ix_lit (j := 0) (by decide)) ?_
      refine r_iadd (pc := 46) hG dX9_landing_46 ?_
      refine r_iconst (pc := 47) hG dX9_landing_47 ic_5 ?_
      refine r_isub (pc := 48) hG dX9_landing_48 ?_
      refine r_istore (pc := 49) (ls' := [_, _, _, _, _, _]) hG dX9_landing_49 rfl rfl ?_
      refine r_aload_n (pc := 51) hG dX9_landing_51 rfl ?_
      refine r_iload (pc := 52) hG dX9_landing_52 rfl ?_
      refine cv_X9_isCell (pc := 54)  hG dX9_landing_54 tw_1331 (c_X9_isCell) (by decide) (Nat.le_of_ble_eq_true rfl) ?_
      refine r_ifz_eq (pc := 57) (tgt := 65) hG dX9_landing_57 (by decide) (fun c4 => ?_) (fun c4 => ?_)
      · refine r_iconst (pc := 65) hG dX9_landing_65 ic_m1 ?_
        exact hret _ _ _ _ dX9_landing_66 (Eq.symm (by unfold sp_X9_landing; exact ((if_neg c1).trans ((if_pos c2).trans (if_neg c4))))) rfl
      · refine r_iload (pc := 60) hG dX9_landing_60 rfl ?_
        refine r_goto (pc := 62) (tgt := 66) hG dX9_landing_62 (by decide) ?_
        exact hret _ _ _ _ dX9_landing_66 (Eq.symm (by unfold sp_X9_landing; exact ((if_neg c1).trans ((if_pos c2).trans (if_pos c4))))) rfl
  · refine r_iconst (pc := 4) hG dX9_landing_4 ic_0 ?_
    refine r_goto (pc := 5) (tgt := 18) hG dX9_landing_5 (by decide) ?_
    refine r_istore (pc := 18) (ls' := [_, _, _, _, _, _]) hG dX9_landing_18 rfl rfl ?_
    refine r_aload_n (pc := 20) hG dX9_landing_20 rfl ?_
    refine gf_X9_at (pc := 21)  hG dX9_landing_21 tw_1170 ?_
    refine r_iload_n (pc := 24) hG dX9_landing_24 rfl ?_
    refine al_Mat (pc := 25)  hG dX9_landing_25 (ix_bd ha0b) ?_
    refine r_iload_n (pc := 26) hG dX9_landing_26 rfl ?_
    refine r_iconst (pc := 27) hG dX9_landing_27 ic_2 ?_
    refine r_icmp_ne (pc := 28) (tgt := 37) hG dX9_landing_28 (by decide) (fun c5 => ?_) (fun c5 => ?_)
    · refine r_iload (pc := 37) hG dX9_landing_37 rfl ?_
      refine r_iadd (pc := 39) hG dX9_landing_39 ?_
      refine r_aload_n (pc := 40) hG dX9_landing_40 rfl ?_
      refine gf_X9_ways (pc := 41)  hG dX9_landing_41 tw_1167 ?_
      refine r_iconst (pc := 44) hG dX9_landing_44 ic_0 ?_
      refine al_Mways (pc := 45)  hG dX9_landing_45 (ix_lit (j := 0) (by decide)) ?_
      refine r_iadd (pc := 46) hG dX9_landing_46 ?_
      refine r_iconst (pc := 47) hG dX9_landing_47 ic_5 ?_
      refine r_isub (pc := 48) hG dX9_landing_48 ?_
      refine r_istore (pc := 49) (ls' := [_, _, _, _, _, _]) hG dX9_landing_49 rfl rfl ?_
      refine r_aload_n (pc := 51) hG dX9_landing_51 rfl ?_
      refine r_iload (pc := 52) hG dX9_landing_52 rfl ?_
      refine cv_X9_isCell (pc := 54)  hG dX9_landing_54 tw_1331 (c_X9_isCell) (by decide) (Nat.le_of_ble_eq_true rfl) ?_
      refine r_ifz_eq (pc := 57) (tgt := 65) hG dX9_landing_57 (by decide) (fun c6 => ?_) (fun c6 => ?_)
      · refine r_iconst (pc := 65) hG dX9_landing_65 ic_m1 ?_
        exact hret _ _ _ _ dX9_landing_66 (Eq.symm (by unfold sp_X9_landing; exact ((if_pos c1).trans ((if_neg c5).trans (if_neg c6))))) rfl
      · refine r_iload (pc := 60) hG dX9_landing_60 rfl ?_
        refine r_goto (pc := 62) (tgt := 66) hG dX9_landing_62 (by decide) ?_
        exact hret _ _ _ _ dX9_landing_66 (Eq.symm (by unfold sp_X9_landing; exact ((if_pos c1).trans ((if_neg c5).trans (if_pos c6))))) rfl
    · refine r_iload (pc := 31) hG dX9_landing_31 rfl ?_
      refine r_ineg (pc := 33) hG dX9_landing_33 ?_
      refine r_goto (pc := 34) (tgt := 39) hG dX9_landing_34 (by decide) ?_
      refine r_iadd (pc := 39) hG dX9_landing_39 ?_
      refine r_aload_n (pc := 40) hG dX9_landing_40 rfl ?_
      refine gf_X9_ways (pc := 41)  hG dX9_landing_41 tw_1167 ?_
      refine r_iconst (pc := 44) hG dX9_landing_44 ic_0 ?_
      refine al_Mways (pc := 45)  hG dX9_landing_45 (ix_lit (j := 0) (by decide)) ?_
      refine r_iadd (pc := 46) hG dX9_landing_46 ?_
      refine r_iconst (pc := 47) hG dX9_landing_47 ic_5 ?_
      refine r_isub (pc := 48) hG dX9_landing_48 ?_
      refine r_istore (pc := 49) (ls' := [_, _, _, _, _, _]) hG dX9_landing_49 rfl rfl ?_
      refine r_aload_n (pc := 51) hG dX9_landing_51 rfl ?_
      refine r_iload (pc := 52) hG dX9_landing_52 rfl ?_
      refine cv_X9_isCell (pc := 54)  hG dX9_landing_54 tw_1331 (c_X9_isCell) (by decide) (Nat.le_of_ble_eq_true rfl) ?_
      refine r_ifz_eq (pc := 57) (tgt := 65) hG dX9_landing_57 (by decide) (fun c7 => ?_) (fun c7 => ?_)
      · refine r_iconst (pc := 65) hG dX9_landing_65 ic_m1 ?_
        exact hret _ _ _ _ dX9_landing_66 (Eq.symm (by unfold sp_X9_landing; exact ((if_pos c1).trans ((if_pos c5).trans (if_neg c7))))) rfl
      · refine r_iload (pc := 60) hG dX9_landing_60 rfl ?_
        refine r_goto (pc := 62) (tgt := 66) hG dX9_landing_62 (by decide) ?_
        exact hret _ _ _ _ dX9_landing_66 (Eq.symm (by unfold sp_X9_landing; exact ((if_pos c1).trans ((if_pos c5).trans (if_pos c7))))) rfl

def sp_X9_reach (M : MT) (a0 : Int32) : Int32 :=
  if (M.1 5 9 (tn a0)) = 1 then
    0
  else
    if (M.1 5 9 (tn a0)) = 2 then
      2
    else
      if (M.1 5 9 (tn a0)) = 3 then
        0
      else
        if (M.1 5 9 (tn a0)) = 4 then
          3
        else
          1
set_option maxRecDepth 20000 in
theorem c_X9_reach {K : KT} {M : MT} {a0 : Int32}  (ha0b : bd (a0) 8) : CM K 1 yX9_reach cX9_reach 2 (some FieldType.int) [rf K 140, .int a0] M (some (.int (sp_X9_reach M a0))) M := by
  refine CM.ofI (by decide) [some (rf K 140), some (.int a0)] rfl (Nat.le_of_ble_eq_true rfl) (Nat.le_of_ble_eq_true rfl) (fun G hG _ hret => ?_)
  refine r_aload_n (pc := 0) hG dX9_reach_0 rfl ?_
  refine gf_X9_kind (pc := 1)  hG dX9_reach_1 tw_1174 ?_
  refine r_iload_n (pc := 4) hG dX9_reach_4 rfl ?_
  refine al_Mkind (pc := 5)  hG dX9_reach_5 (ix_bd ha0b) ?_
  by_cases c1 : (M.1 5 9 (tn a0)) = 1
  · refine r_tableIn (pc := 6) (tgt := 36) (off := 30) hG dX9_reach_6 (by rw [c1]; decide) (by rw [c1]; decide) (by rw [c1]; rfl) (by decide) ?_
    refine r_iconst (pc := 36) hG dX9_reach_36 ic_0 ?_
    exact hret _ _ _ _ dX9_reach_37 (Eq.symm (by unfold sp_X9_reach; exact (if_pos c1))) rfl
  · by_cases c2 : (M.1 5 9 (tn a0)) = 2
    · refine r_tableIn (pc := 6) (tgt := 38) (off := 32) hG dX9_reach_6 (by rw [c2]; decide) (by rw [c2]; decide) (by rw [c2]; rfl) (by decide) ?_
      refine r_iconst (pc := 38) hG dX9_reach_38 ic_2 ?_
      exact hret _ _ _ _ dX9_reach_39 (Eq.symm (by unfold sp_X9_reach; exact ((if_neg c1).trans (if_pos c2)))) rfl
    · by_cases c3 : (M.1 5 9 (tn a0)) = 3
      · refine r_tableIn (pc := 6) (tgt := 36) (off := 30) hG dX9_reach_6 (by rw [c3]; decide) (by rw [c3]; decide) (by rw [c3]; rfl) (by decide) ?_
        refine r_iconst (pc := 36) hG dX9_reach_36 ic_0 ?_
        exact hret _ _ _ _ dX9_reach_37 (Eq.symm (by unfold sp_X9_reach; exact ((if_neg c1).trans ((if_neg c2).trans (if_pos c3))))) rfl
      · by_cases c4 : (M.1 5 9 (tn a0)) = 4
        · refine r_tableIn (pc := 6) (tgt := 40) (off := 34) hG dX9_reach_6 (by rw [c4]; decide) (by rw [c4]; decide) (by rw [c4]; rfl) (by decide) ?_
          refine r_iconst (pc := 40) hG dX9_reach_40 ic_3 ?_
          exact hret _ _ _ _ dX9_reach_41 (Eq.symm (by unfold sp_X9_reach; exact ((if_neg c1).trans ((if_neg c2).trans ((if_neg c3).trans (if_pos c4)))))) rfl
        · have nc1 : Int32.toInt (M.1 5 9 (tn a0)) ≠ 1 := fun q => c1 (Int32.toInt_inj.mp q)
          have nc2 : Int32.toInt (M.1 5 9 (tn a0)) ≠ 2 := fun q => c2 (Int32.toInt_inj.mp q)
          have nc3 : Int32.toInt (M.1 5 9 (tn a0)) ≠ 3 := fun q => c3 (Int32.toInt_inj.mp q)
          have nc4 : Int32.toInt (M.1 5 9 (tn a0)) ≠ 4 := fun q => c4 (Int32.toInt_inj.mp q)
          refine r_tableOut (pc := 6) (tgt := 42) hG dX9_reach_6 (by omega) (by decide) ?_
          refine r_iconst (pc := 42) hG dX9_reach_42 ic_1 ?_
          exact hret _ _ _ _ dX9_reach_43 (Eq.symm (by unfold sp_X9_reach; exact ((if_neg c1).trans ((if_neg c2).trans ((if_neg c3).trans (if_neg c4)))))) rfl

def sp_X9_away (M : MT) (a0 : Int32) (a1 : Int32) : Int32 :=
  iabs ((M.1 5 11 (tn a0)) - a1)
set_option maxRecDepth 20000 in
theorem c_X9_away {K : KT} {M : MT} {a0 : Int32} {a1 : Int32}  (ha0b : bd (a0) 8) : CM K 2 yX9_away cX9_away 3 (some FieldType.int) [rf K 140, .int a0, .int a1] M (some (.int (sp_X9_away M a0 a1))) M := by
  refine CM.ofI (by decide) [some (rf K 140), some (.int a0), some (.int a1)] rfl (Nat.le_of_ble_eq_true rfl) (Nat.le_of_ble_eq_true rfl) (fun G hG _ hret => ?_)
  refine r_aload_n (pc := 0) hG dX9_away_0 rfl ?_
  refine gf_X9_place (pc := 1)  hG dX9_away_1 tw_1176 ?_
  refine r_iload_n (pc := 4) hG dX9_away_4 rfl ?_
  refine al_Mplace (pc := 5)  hG dX9_away_5 (ix_bd ha0b) ?_
  refine r_iload_n (pc := 6) hG dX9_away_6 rfl ?_
  refine r_isub (pc := 7) hG dX9_away_7 ?_
  refine r_mabs (pc := 8) hG dX9_away_8 tw_1466 (by decide) (Nat.le_of_ble_eq_true rfl) ?_
  exact hret _ _ _ _ dX9_away_11 (Eq.symm (by unfold sp_X9_away; exact rfl)) rfl

def st_X9_nearest_6 (M : MT) (a0 : Int32) (a1 : Int32) (a2 : Int32) (i : Nat) (b6 : Int32) : Int32 :=
  if (nI i) = a1 then
    b6
  else
    if (M.1 5 9 i) = 5 then
      if 1 = a2 then
        if (M.1 5 12 i) = (-1) then
          if (sp_X9_reach M (nI i)) < (sp_X9_away M (nI i) a0) then
            b6
          else
            if b6 = (-1) then
              nI i
            else
              if (sp_X9_away M b6 a0) ≤ (sp_X9_away M (nI i) a0) then
                b6
              else
                nI i
        else
          b6
      else
        b6
    else
      if 0 = a2 then
        if (M.1 5 12 i) = (-1) then
          if (sp_X9_reach M (nI i)) < (sp_X9_away M (nI i) a0) then
            b6
          else
            if b6 = (-1) then
              nI i
            else
              if (sp_X9_away M b6 a0) ≤ (sp_X9_away M (nI i) a0) then
                b6
              else
                nI i
        else
          b6
      else
        b6
def sp_X9_nearest (M : MT) (a0 : Int32) (a1 : Int32) (a2 : Int32) : Int32 :=
  itN (tn (M.1 5 1 0)) (st_X9_nearest_6 M a0 a1 a2) (-1)
set_option maxRecDepth 20000 in
theorem c_X9_nearest {K : KT} {M : MT} {a0 : Int32} {a1 : Int32} {a2 : Int32}  (hpc5 : bd (M.1 5 1 0) 9) : CM K 3 yX9_nearest cX9_nearest 6 (some FieldType.int) [rf K 140, .int a0, .int a1, .int a2] M (some (.int (sp_X9_nearest M a0 a1 a2))) M := by
  refine CM.ofI (by decide) [some (rf K 140), some (.int a0), some (.int a1), some (.int a2), none, none] rfl (Nat.le_of_ble_eq_true rfl) (Nat.le_of_ble_eq_true rfl) (fun G hG _ hret => ?_)
  have hpl5 := bd_lt hpc5
  refine r_iconst (pc := 0) hG dX9_nearest_0 ic_m1 ?_
  refine r_istore (pc := 1) (ls' := [_, _, _, _, _, _]) hG dX9_nearest_1 rfl rfl ?_
  refine r_iconst (pc := 3) hG dX9_nearest_3 ic_0 ?_
  refine r_istore (pc := 4) (ls' := [_, _, _, _, _, _]) hG dX9_nearest_4 rfl rfl ?_
  have hb6 : bd (M.1 5 1 0) 9 := hpc5
  have hb6l := bd_lt hb6
  have lp6 : ∀ i, i ≤ (tn (M.1 5 1 0)) → ∀ b6 : Int32, b6 = itN i (st_X9_nearest_6 M a0 a1 a2) (-1) → J G K M 6 [some (rf K 140), some (.int a0), some (.int a1), some (.int a2), some (.int b6), some (.int (nI i))] [] := by
    refine up_ind (tn (M.1 5 1 0)) (fun i hi6 ih6 => ?_)
    intro b6 hg6
    have hv6 : b6 = -1 ∨ bd (b6) 8 := by subst hg6; exact itN_inv (fun x => x = -1 ∨ bd x 8) i (Or.inl rfl) (fun k b hk hb => by unfold st_X9_nearest_6; (repeat' split) <;> first | exact hb | exact Or.inr (bd_nI (by omega) (Nat.le_of_ble_eq_true rfl)))
    refine r_iload (pc := 6) hG dX9_nearest_6 rfl ?_
    refine r_aload_n (pc := 8) hG dX9_nearest_8 rfl ?_
    refine gf_X9_people (pc := 9)  hG dX9_nearest_9 tw_1173 ?_
    refine r_icmp_ge (pc := 12) (tgt := 101) hG dX9_nearest_12 (by decide) (fun c1 => ?_) (fun c1 => ?_)
    · have e6 : i = (tn (M.1 5 1 0)) := by have := (bd_le hb6 (by omega)).mp c1; omega
      subst hg6
      subst e6
      refine r_iload (pc := 101) hG dX9_nearest_101 rfl ?_
      exact hret _ _ _ _ dX9_nearest_103 (Eq.symm (by unfold sp_X9_nearest; exact rfl)) rfl
    · have hl6 : i < (tn (M.1 5 1 0)) := by have := mt (bd_le hb6 (by omega)).mpr c1; omega
      refine r_iload (pc := 15) hG dX9_nearest_15 rfl ?_
      refine r_iload_n (pc := 17) hG dX9_nearest_17 rfl ?_
      refine r_icmp_eq (pc := 18) (tgt := 95) hG dX9_nearest_18 (by decide) (fun c2 => ?_) (fun c2 => ?_)
      · refine r_iinc (pc := 95) (v := nI (i + 1)) (ls' := [_, _, _, _, _, _]) hG dX9_nearest_95 rfl (nI_1 _) rfl rfl ?_
        refine r_goto (pc := 98) (tgt := 6) hG dX9_nearest_98 (by decide) ?_
        have eN6 : b6 = st_X9_nearest_6 M a0 a1 a2 i (itN i (st_X9_nearest_6 M a0 a1 a2) (-1)) := by rw [← hg6]; unfold st_X9_nearest_6; exact Eq.symm (if_pos c2)
        refine J.wk (ls' := [some (rf K 140), some (.int a0), some (.int a1), some (.int a2), some (.int b6), some (.int (nI (i + 1)))]) ?_ (Eq.refl 6) (wk_s rfl (wk_s rfl (wk_s rfl (wk_s rfl (wk_s rfl (wk_s rfl wk_0))))))
        exact ih6 hl6 b6 eN6
      · refine r_aload_n (pc := 21) hG dX9_nearest_21 rfl ?_
        refine gf_X9_kind (pc := 22)  hG dX9_nearest_22 tw_1174 ?_
        refine r_iload (pc := 25) hG dX9_nearest_25 rfl ?_
        refine al_Mkind (pc := 27)  hG dX9_nearest_27 (ix_nI (by omega) (Nat.le_of_ble_eq_true rfl)) ?_
        refine r_iconst (pc := 28) hG dX9_nearest_28 ic_5 ?_
        refine r_icmp_ne (pc := 29) (tgt := 36) hG dX9_nearest_29 (by decide) (fun c3 => ?_) (fun c3 => ?_)
        · refine r_iconst (pc := 36) hG dX9_nearest_36 ic_0 ?_
          refine r_iload_n (pc := 37) hG dX9_nearest_37 rfl ?_
          refine r_icmp_ne (pc := 38) (tgt := 95) hG dX9_nearest_38 (by decide) (fun c4 => ?_) (fun c4 => ?_)
          · refine r_iinc (pc := 95) (v := nI (i + 1)) (ls' := [_, _, _, _, _, _]) hG dX9_nearest_95 rfl (nI_1 _) rfl rfl ?_
            refine r_goto (pc := 98) (tgt := 6) hG dX9_nearest_98 (by decide) ?_
            have eN6 : b6 = st_X9_nearest_6 M a0 a1 a2 i (itN i (st_X9_nearest_6 M a0 a1 a2) (-1)) := by rw [← hg6]; unfold st_X9_nearest_6; exact Eq.symm ((if_neg c2).trans ((if_neg c3).trans (if_neg c4)))
            refine J.wk (ls' := [some (rf K 140), some (.int a0), some (.int a1), some (.int a2), some (.int b6), some (.int (nI (i + 1)))]) ?_ (Eq.refl 6) (wk_s rfl (wk_s rfl (wk_s rfl (wk_s rfl (wk_s rfl (wk_s rfl wk_0))))))
            exact ih6 hl6 b6 eN6
          · refine r_aload_n (pc := 41) hG dX9_nearest_41 rfl ?_
            refine gf_X9_rose (pc := 42)  hG dX9_nearest_42 tw_1177 ?_
            refine r_iload (pc := 45) hG dX9_nearest_45 rfl ?_
            refine al_Mrose (pc := 47)  hG dX9_nearest_47 (ix_nI (by omega) (Nat.le_of_ble_eq_true rfl)) ?_
            refine r_iconst (pc := 48) hG dX9_nearest_48 ic_m1 ?_
            refine r_icmp_ne (pc := 49) (tgt := 95) hG dX9_nearest_49 (by decide) (fun c5 => ?_) (fun c5 => ?_)
            · refine r_iinc (pc := 95) (v := nI (i + 1)) (ls' := [_, _, _, _, _, _]) hG dX9_nearest_95 rfl (nI_1 _) rfl rfl ?_
              refine r_goto (pc := 98) (tgt := 6) hG dX9_nearest_98 (by decide) ?_
              have eN6 : b6 = st_X9_nearest_6 M a0 a1 a2 i (itN i (st_X9_nearest_6 M a0 a1 a2) (-1)) := by rw [← hg6]; unfold st_X9_nearest_6; exact Eq.symm ((if_neg c2).trans ((if_neg c3).trans ((if_pos c4).trans (if_neg c5))))
              refine J.wk (ls' := [some (rf K 140), some (.int a0), some (.int a1), some (.int a2), some (.int b6), some (.int (nI (i + 1)))]) ?_ (Eq.refl 6) (wk_s rfl (wk_s rfl (wk_s rfl (wk_s rfl (wk_s rfl (wk_s rfl wk_0))))))
              exact ih6 hl6 b6 eN6
            · refine r_aload_n (pc := 52) hG dX9_nearest_52 rfl ?_
              refine r_iload (pc := 53) hG dX9_nearest_53 rfl ?_
              refine r_iload_n (pc := 55) hG dX9_nearest_55 rfl ?_
              refine cv_X9_away (pc := 56)  hG dX9_nearest_56 tw_1462 (c_X9_away (bd_nI (by omega) (Nat.le_of_ble_eq_true rfl))) (by decide) (Nat.le_of_ble_eq_true rfl) ?_
              refine r_aload_n (pc := 59) hG dX9_nearest_59 rfl ?_
              refine r_iload (pc := 60) hG dX9_nearest_60 rfl ?_
              refine cv_X9_reach (pc := 62)  hG dX9_nearest_62 tw_1422 (c_X9_reach (bd_nI (by omega) (Nat.le_of_ble_eq_true rfl))) (by decide) (Nat.le_of_ble_eq_true rfl) ?_
              refine r_icmp_gt (pc := 65) (tgt := 95) hG dX9_nearest_65 (by decide) (fun c6 => ?_) (fun c6 => ?_)
              · refine r_iinc (pc := 95) (v := nI (i + 1)) (ls' := [_, _, _, _, _, _]) hG dX9_nearest_95 rfl (nI_1 _) rfl rfl ?_
                refine r_goto (pc := 98) (tgt := 6) hG dX9_nearest_98 (by decide) ?_
                have eN6 : b6 = st_X9_nearest_6 M a0 a1 a2 i (itN i (st_X9_nearest_6 M a0 a1 a2) (-1)) := by rw [← hg6]; unfold st_X9_nearest_6; exact Eq.symm ((if_neg c2).trans ((if_neg c3).trans ((if_pos c4).trans ((if_pos c5).trans (if_pos c6)))))
                refine J.wk (ls' := [some (rf K 140), some (.int a0), some (.int a1), some (.int a2), some (.int b6), some (.int (nI (i + 1)))]) ?_ (Eq.refl 6) (wk_s rfl (wk_s rfl (wk_s rfl (wk_s rfl (wk_s rfl (wk_s rfl wk_0))))))
                exact ih6 hl6 b6 eN6
              · refine r_iload (pc := 68) hG dX9_nearest_68 rfl ?_
                refine r_iconst (pc := 70) hG dX9_nearest_70 ic_m1 ?_
                refine r_icmp_eq (pc := 71) (tgt := 91) hG dX9_nearest_71 (by decide) (fun c7 => ?_) (fun c7 => ?_)
                · refine r_iload (pc := 91) hG dX9_nearest_91 rfl ?_
                  refine r_istore (pc := 93) (ls' := [_, _, _, _, _, _]) hG dX9_nearest_93 rfl rfl ?_
                  refine r_iinc (pc := 95) (v := nI (i + 1)) (ls' := [_, _, _, _, _, _]) hG dX9_nearest_95 rfl (nI_1 _) rfl rfl ?_
                  refine r_goto (pc := 98) (tgt := 6) hG dX9_nearest_98 (by decide) ?_
                  have eN6 : nI i = st_X9_nearest_6 M a0 a1 a2 i (itN i (st_X9_nearest_6 M a0 a1 a2) (-1)) := by rw [← hg6]; unfold st_X9_nearest_6; exact Eq.symm ((if_neg c2).trans ((if_neg c3).trans ((if_pos c4).trans ((if_pos c5).trans ((if_neg c6).trans (if_pos c7))))))
                  refine J.wk (ls' := [some (rf K 140), some (.int a0), some (.int a1), some (.int a2), some (.int (nI i)), some (.int (nI (i + 1)))]) ?_ (Eq.refl 6) (wk_s rfl (wk_s rfl (wk_s rfl (wk_s rfl (wk_s rfl (wk_s rfl wk_0))))))
                  exact ih6 hl6 (nI i) eN6
                · refine r_aload_n (pc := 74) hG dX9_nearest_74 rfl ?_
                  refine r_iload (pc := 75) hG dX9_nearest_75 rfl ?_
                  refine r_iload_n (pc := 77) hG dX9_nearest_77 rfl ?_
                  refine cv_X9_away (pc := 78)  hG dX9_nearest_78 tw_1462 (c_X9_away (bd_nI (by omega) (Nat.le_of_ble_eq_true rfl))) (by decide) (Nat.le_of_ble_eq_true rfl) ?_
                  refine r_aload_n (pc := 81) hG dX9_nearest_81 rfl ?_
                  refine r_iload (pc := 82) hG dX9_nearest_82 rfl ?_
                  refine r_iload_n (pc := 84) hG dX9_nearest_84 rfl ?_
                  refine cv_X9_away (pc := 85)  hG dX9_nearest_85 tw_1462 (c_X9_away (Or.resolve_left hv6 c7)) (by decide) (Nat.le_of_ble_eq_true rfl) ?_
                  refine r_icmp_ge (pc := 88) (tgt := 95) hG dX9_nearest_88 (by decide) (fun c8 => ?_) (fun c8 => ?_)
                  · refine r_iinc (pc := 95) (v := nI (i + 1)) (ls' := [_, _, _, _, _, _]) hG dX9_nearest_95 rfl (nI_1 _) rfl rfl ?_
                    refine r_goto (pc := 98) (tgt := 6) hG dX9_nearest_98 (by decide) ?_
                    have eN6 : b6 = st_X9_nearest_6 M a0 a1 a2 i (itN i (st_X9_nearest_6 M a0 a1 a2) (-1)) := by rw [← hg6]; unfold st_X9_nearest_6; exact Eq.symm ((if_neg c2).trans ((if_neg c3).trans ((if_pos c4).trans ((if_pos c5).trans ((if_neg c6).trans ((if_neg c7).trans (if_pos c8)))))))
                    refine J.wk (ls' := [some (rf K 140), some (.int a0), some (.int a1), some (.int a2), some (.int b6), some (.int (nI (i + 1)))]) ?_ (Eq.refl 6) (wk_s rfl (wk_s rfl (wk_s rfl (wk_s rfl (wk_s rfl (wk_s rfl wk_0))))))
                    exact ih6 hl6 b6 eN6
                  · refine r_iload (pc := 91) hG dX9_nearest_91 rfl ?_
                    refine r_istore (pc := 93) (ls' := [_, _, _, _, _, _]) hG dX9_nearest_93 rfl rfl ?_
                    refine r_iinc (pc := 95) (v := nI (i + 1)) (ls' := [_, _, _, _, _, _]) hG dX9_nearest_95 rfl (nI_1 _) rfl rfl ?_
                    refine r_goto (pc := 98) (tgt := 6) hG dX9_nearest_98 (by decide) ?_
                    have eN6 : nI i = st_X9_nearest_6 M a0 a1 a2 i (itN i (st_X9_nearest_6 M a0 a1 a2) (-1)) := by rw [← hg6]; unfold st_X9_nearest_6; exact Eq.symm ((if_neg c2).trans ((if_neg c3).trans ((if_pos c4).trans ((if_pos c5).trans ((if_neg c6).trans ((if_neg c7).trans (if_neg c8)))))))
                    refine J.wk (ls' := [some (rf K 140), some (.int a0), some (.int a1), some (.int a2), some (.int (nI i)), some (.int (nI (i + 1)))]) ?_ (Eq.refl 6) (wk_s rfl (wk_s rfl (wk_s rfl (wk_s rfl (wk_s rfl (wk_s rfl wk_0))))))
                    exact ih6 hl6 (nI i) eN6
        · refine r_iconst (pc := 32) hG dX9_nearest_32 ic_1 ?_
          refine r_goto (pc := 33) (tgt := 37) hG dX9_nearest_33 (by decide) ?_
          refine r_iload_n (pc := 37) hG dX9_nearest_37 rfl ?_
          refine r_icmp_ne (pc := 38) (tgt := 95) hG dX9_nearest_38 (by decide) (fun c9 => ?_) (fun c9 => ?_)
          · refine r_iinc (pc := 95) (v := nI (i + 1)) (ls' := [_, _, _, _, _, _]) hG dX9_nearest_95 rfl (nI_1 _) rfl rfl ?_
            refine r_goto (pc := 98) (tgt := 6) hG dX9_nearest_98 (by decide) ?_
            have eN6 : b6 = st_X9_nearest_6 M a0 a1 a2 i (itN i (st_X9_nearest_6 M a0 a1 a2) (-1)) := by rw [← hg6]; unfold st_X9_nearest_6; exact Eq.symm ((if_neg c2).trans ((if_pos c3).trans (if_neg c9)))
            refine J.wk (ls' := [some (rf K 140), some (.int a0), some (.int a1), some (.int a2), some (.int b6), some (.int (nI (i + 1)))]) ?_ (Eq.refl 6) (wk_s rfl (wk_s rfl (wk_s rfl (wk_s rfl (wk_s rfl (wk_s rfl wk_0))))))
            exact ih6 hl6 b6 eN6
          · refine r_aload_n (pc := 41) hG dX9_nearest_41 rfl ?_
            refine gf_X9_rose (pc := 42)  hG dX9_nearest_42 tw_1177 ?_
            refine r_iload (pc := 45) hG dX9_nearest_45 rfl ?_
            refine al_Mrose (pc := 47)  hG dX9_nearest_47 (ix_nI (by omega) (Nat.le_of_ble_eq_true rfl)) ?_
            refine r_iconst (pc := 48) hG dX9_nearest_48 ic_m1 ?_
            refine r_icmp_ne (pc := 49) (tgt := 95) hG dX9_nearest_49 (by decide) (fun c10 => ?_) (fun c10 => ?_)
            · refine r_iinc (pc := 95) (v := nI (i + 1)) (ls' := [_, _, _, _, _, _]) hG dX9_nearest_95 rfl (nI_1 _) rfl rfl ?_
              refine r_goto (pc := 98) (tgt := 6) hG dX9_nearest_98 (by decide) ?_
              have eN6 : b6 = st_X9_nearest_6 M a0 a1 a2 i (itN i (st_X9_nearest_6 M a0 a1 a2) (-1)) := by rw [← hg6]; unfold st_X9_nearest_6; exact Eq.symm ((if_neg c2).trans ((if_pos c3).trans ((if_pos c9).trans (if_neg c10))))
              refine J.wk (ls' := [some (rf K 140), some (.int a0), some (.int a1), some (.int a2), some (.int b6), some (.int (nI (i + 1)))]) ?_ (Eq.refl 6) (wk_s rfl (wk_s rfl (wk_s rfl (wk_s rfl (wk_s rfl (wk_s rfl wk_0))))))
              exact ih6 hl6 b6 eN6
            · refine r_aload_n (pc := 52) hG dX9_nearest_52 rfl ?_
              refine r_iload (pc := 53) hG dX9_nearest_53 rfl ?_
              refine r_iload_n (pc := 55) hG dX9_nearest_55 rfl ?_
              refine cv_X9_away (pc := 56)  hG dX9_nearest_56 tw_1462 (c_X9_away (bd_nI (by omega) (Nat.le_of_ble_eq_true rfl))) (by decide) (Nat.le_of_ble_eq_true rfl) ?_
              refine r_aload_n (pc := 59) hG dX9_nearest_59 rfl ?_
              refine r_iload (pc := 60) hG dX9_nearest_60 rfl ?_
              refine cv_X9_reach (pc := 62)  hG dX9_nearest_62 tw_1422 (c_X9_reach (bd_nI (by omega) (Nat.le_of_ble_eq_true rfl))) (by decide) (Nat.le_of_ble_eq_true rfl) ?_
              refine r_icmp_gt (pc := 65) (tgt := 95) hG dX9_nearest_65 (by decide) (fun c11 => ?_) (fun c11 => ?_)
              · refine r_iinc (pc := 95) (v := nI (i + 1)) (ls' := [_, _, _, _, _, _]) hG dX9_nearest_95 rfl (nI_1 _) rfl rfl ?_
                refine r_goto (pc := 98) (tgt := 6) hG dX9_nearest_98 (by decide) ?_
                have eN6 : b6 = st_X9_nearest_6 M a0 a1 a2 i (itN i (st_X9_nearest_6 M a0 a1 a2) (-1)) := by rw [← hg6]; unfold st_X9_nearest_6; exact Eq.symm ((if_neg c2).trans ((if_pos c3).trans ((if_pos c9).trans ((if_pos c10).trans (if_pos c11)))))
                refine J.wk (ls' := [some (rf K 140), some (.int a0), some (.int a1), some (.int a2), some (.int b6), some (.int (nI (i + 1)))]) ?_ (Eq.refl 6) (wk_s rfl (wk_s rfl (wk_s rfl (wk_s rfl (wk_s rfl (wk_s rfl wk_0))))))
                exact ih6 hl6 b6 eN6
              · refine r_iload (pc := 68) hG dX9_nearest_68 rfl ?_
                refine r_iconst (pc := 70) hG dX9_nearest_70 ic_m1 ?_
                refine r_icmp_eq (pc := 71) (tgt := 91) hG dX9_nearest_71 (by decide) (fun c12 => ?_) (fun c12 => ?_)
                · refine r_iload (pc := 91) hG dX9_nearest_91 rfl ?_
                  refine r_istore (pc := 93) (ls' := [_, _, _, _, _, _]) hG dX9_nearest_93 rfl rfl ?_
                  refine r_iinc (pc := 95) (v := nI (i + 1)) (ls' := [_, _, _, _, _, _]) hG dX9_nearest_95 rfl (nI_1 _) rfl rfl ?_
                  refine r_goto (pc := 98) (tgt := 6) hG dX9_nearest_98 (by decide) ?_
                  have eN6 : nI i = st_X9_nearest_6 M a0 a1 a2 i (itN i (st_X9_nearest_6 M a0 a1 a2) (-1)) := by rw [← hg6]; unfold st_X9_nearest_6; exact Eq.symm ((if_neg c2).trans ((if_pos c3).trans ((if_pos c9).trans ((if_pos c10).trans ((if_neg c11).trans (if_pos c12))))))
                  refine J.wk (ls' := [some (rf K 140), some (.int a0), some (.int a1), some (.int a2), some (.int (nI i)), some (.int (nI (i + 1)))]) ?_ (Eq.refl 6) (wk_s rfl (wk_s rfl (wk_s rfl (wk_s rfl (wk_s rfl (wk_s rfl wk_0))))))
                  exact ih6 hl6 (nI i) eN6
                · refine r_aload_n (pc := 74) hG dX9_nearest_74 rfl ?_
                  refine r_iload (pc := 75) hG dX9_nearest_75 rfl ?_
                  refine r_iload_n (pc := 77) hG dX9_nearest_77 rfl ?_
                  refine cv_X9_away (pc := 78)  hG dX9_nearest_78 tw_1462 (c_X9_away (bd_nI (by omega) (Nat.le_of_ble_eq_true rfl))) (by decide) (Nat.le_of_ble_eq_true rfl) ?_
                  refine r_aload_n (pc := 81) hG dX9_nearest_81 rfl ?_
                  refine r_iload (pc := 82) hG dX9_nearest_82 rfl ?_
                  refine r_iload_n (pc := 84) hG dX9_nearest_84 rfl ?_
                  refine cv_X9_away (pc := 85)  hG dX9_nearest_85 tw_1462 (c_X9_away (Or.resolve_left hv6 c12)) (by decide) (Nat.le_of_ble_eq_true rfl) ?_
                  refine r_icmp_ge (pc := 88) (tgt := 95) hG dX9_nearest_88 (by decide) (fun c13 => ?_) (fun c13 => ?_)
                  · refine r_iinc (pc := 95) (v := nI (i + 1)) (ls' := [_, _, _, _, _, _]) hG dX9_nearest_95 rfl (nI_1 _) rfl rfl ?_
                    refine r_goto (pc := 98) (tgt := 6) hG dX9_nearest_98 (by decide) ?_
                    have eN6 : b6 = st_X9_nearest_6 M a0 a1 a2 i (itN i (st_X9_nearest_6 M a0 a1 a2) (-1)) := by rw [← hg6]; unfold st_X9_nearest_6; exact Eq.symm ((if_neg c2).trans ((if_pos c3).trans ((if_pos c9).trans ((if_pos c10).trans ((if_neg c11).trans ((if_neg c12).trans (if_pos c13)))))))
                    refine J.wk (ls' := [some (rf K 140), some (.int a0), some (.int a1), some (.int a2), some (.int b6), some (.int (nI (i + 1)))]) ?_ (Eq.refl 6) (wk_s rfl (wk_s rfl (wk_s rfl (wk_s rfl (wk_s rfl (wk_s rfl wk_0))))))
                    exact ih6 hl6 b6 eN6
                  · refine r_iload (pc := 91) hG dX9_nearest_91 rfl ?_
                    refine r_istore (pc := 93) (ls' := [_, _, _, _, _, _]) hG dX9_nearest_93 rfl rfl ?_
                    refine r_iinc (pc := 95) (v := nI (i + 1)) (ls' := [_, _, _, _, _, _]) hG dX9_nearest_95 rfl (nI_1 _) rfl rfl ?_
                    refine r_goto (pc := 98) (tgt := 6) hG dX9_nearest_98 (by decide) ?_
                    have eN6 : nI i = st_X9_nearest_6 M a0 a1 a2 i (itN i (st_X9_nearest_6 M a0 a1 a2) (-1)) := by rw [← hg6]; unfold st_X9_nearest_6; exact Eq.symm ((if_neg c2).trans ((if_pos c3).trans ((if_pos c9).trans ((if_pos c10).trans ((if_neg c11).trans ((if_neg c12).trans (if_neg c13)))))))
                    refine J.wk (ls' := [some (rf K 140), some (.int a0), some (.int a1), some (.int a2), some (.int (nI i)), some (.int (nI (i + 1)))]) ?_ (Eq.refl 6) (wk_s rfl (wk_s rfl (wk_s rfl (wk_s rfl (wk_s rfl (wk_s rfl wk_0))))))
                    exact ih6 hl6 (nI i) eN6
  exact (lp6 0 (Nat.zero_le _) _ rfl).wk (Eq.refl 6) (wk_s rfl (wk_s rfl (wk_s rfl (wk_s rfl (wk_s rfl (wk_s rfl wk_0))))))

def sp_X9_catcher (M : MT) (a0 : Int32) (a1 : Int32) : Int32 :=
  if a0 = (-1) then
    (-1)
  else
    if (sp_X9_nearest M a0 a1 0) = (-1) then
      sp_X9_nearest M a0 a1 1
    else
      sp_X9_nearest M a0 a1 0
set_option maxRecDepth 20000 in
theorem c_X9_catcher {K : KT} {M : MT} {a0 : Int32} {a1 : Int32}  (hpc5 : bd (M.1 5 1 0) 9) : CM K 4 yX9_catcher cX9_catcher 4 (some FieldType.int) [rf K 140, .int a0, .int a1] M (some (.int (sp_X9_catcher M a0 a1))) M := by
  refine CM.ofI (by decide) [some (rf K 140), some (.int a0), some (.int a1), none] rfl (Nat.le_of_ble_eq_true rfl) (Nat.le_of_ble_eq_true rfl) (fun G hG _ hret => ?_)
  have hpl5 := bd_lt hpc5
  refine r_iload_n (pc := 0) hG dX9_catcher_0 rfl ?_
  refine r_iconst (pc := 1) hG dX9_catcher_1 ic_m1 ?_
  refine r_icmp_ne (pc := 2) (tgt := 7) hG dX9_catcher_2 (by decide) (fun c1 => ?_) (fun c1 => ?_)
  · refine r_aload_n (pc := 7) hG dX9_catcher_7 rfl ?_
    refine r_iload_n (pc := 8) hG dX9_catcher_8 rfl ?_
    refine r_iload_n (pc := 9) hG dX9_catcher_9 rfl ?_
    refine r_iconst (pc := 10) hG dX9_catcher_10 ic_0 ?_
    refine cv_X9_nearest (pc := 11)  hG dX9_catcher_11 tw_1458 (c_X9_nearest hpc5) (by decide) (Nat.le_of_ble_eq_true rfl) ?_
    refine r_istore_n (pc := 14) (ls' := [_, _, _, _]) hG dX9_catcher_14 rfl rfl ?_
    refine r_iload_n (pc := 15) hG dX9_catcher_15 rfl ?_
    refine r_iconst (pc := 16) hG dX9_catcher_16 ic_m1 ?_
    refine r_icmp_ne (pc := 17) (tgt := 30) hG dX9_catcher_17 (by decide) (fun c2 => ?_) (fun c2 => ?_)
    · refine r_iload_n (pc := 30) hG dX9_catcher_30 rfl ?_
      exact hret _ _ _ _ dX9_catcher_31 (Eq.symm (by unfold sp_X9_catcher; exact ((if_neg c1).trans (if_neg c2)))) rfl
    · refine r_aload_n (pc := 20) hG dX9_catcher_20 rfl ?_
      refine r_iload_n (pc := 21) hG dX9_catcher_21 rfl ?_
      refine r_iload_n (pc := 22) hG dX9_catcher_22 rfl ?_
      refine r_iconst (pc := 23) hG dX9_catcher_23 ic_1 ?_
      refine cv_X9_nearest (pc := 24)  hG dX9_catcher_24 tw_1458 (c_X9_nearest hpc5) (by decide) (Nat.le_of_ble_eq_true rfl) ?_
      refine r_goto (pc := 27) (tgt := 31) hG dX9_catcher_27 (by decide) ?_
      exact hret _ _ _ _ dX9_catcher_31 (Eq.symm (by unfold sp_X9_catcher; exact ((if_neg c1).trans (if_pos c2)))) rfl
  · refine r_iconst (pc := 5) hG dX9_catcher_5 ic_m1 ?_
    exact hret _ _ _ _ dX9_catcher_6 (Eq.symm (by unfold sp_X9_catcher; exact (if_pos c1))) rfl

def sp_X9_caughtBy (M : MT) (a0 : Int32) (a1 : Int32) (a2 : Int32) : Int32 :=
  sp_X9_catcher M (sp_X9_landing M a0 a1 a2) (-1)
set_option maxRecDepth 20000 in
theorem c_X9_caughtBy {K : KT} {M : MT} {a0 : Int32} {a1 : Int32} {a2 : Int32}  (ha0b : bd (a0) 8) (hpc5 : bd (M.1 5 1 0) 9) : CM K 5 yX9_caughtBy cX9_caughtBy 4 (some FieldType.int) [rf K 140, .int a0, .int a1, .int a2] M (some (.int (sp_X9_caughtBy M a0 a1 a2))) M := by
  refine CM.ofI (by decide) [some (rf K 140), some (.int a0), some (.int a1), some (.int a2)] rfl (Nat.le_of_ble_eq_true rfl) (Nat.le_of_ble_eq_true rfl) (fun G hG _ hret => ?_)
  have hpl5 := bd_lt hpc5
  refine r_aload_n (pc := 0) hG dX9_caughtBy_0 rfl ?_
  refine r_aload_n (pc := 1) hG dX9_caughtBy_1 rfl ?_
  refine r_iload_n (pc := 2) hG dX9_caughtBy_2 rfl ?_
  refine r_iload_n (pc := 3) hG dX9_caughtBy_3 rfl ?_
  refine r_iload_n (pc := 4) hG dX9_caughtBy_4 rfl ?_
  refine cv_X9_landing (pc := 5)  hG dX9_caughtBy_5 tw_1442 (c_X9_landing ha0b) (by decide) (Nat.le_of_ble_eq_true rfl) ?_
  refine r_iconst (pc := 8) hG dX9_caughtBy_8 ic_m1 ?_
  refine cv_X9_catcher (pc := 9)  hG dX9_caughtBy_9 tw_1454 (c_X9_catcher hpc5) (by decide) (Nat.le_of_ble_eq_true rfl) ?_
  exact hret _ _ _ _ dX9_caughtBy_12 (Eq.symm (by unfold sp_X9_caughtBy; exact rfl)) rfl

def sp_X9_slowTo (M : MT) (a0 : Int32) (a1 : Int32) : Int32 :=
  if (M.1 5 9 (tn a0)) = 1 then
    (2 * (M.1 5 10 (tn a0))) + 3
  else
    if (M.1 5 9 (tn a0)) = 2 then
      (M.1 5 10 (tn a0)) / 2
    else
      if (M.1 5 9 (tn a0)) = 3 then
        ((2 * (M.1 5 10 (tn a0))) + 3) + a1
      else
        if (M.1 5 9 (tn a0)) = 4 then
          0
        else
          if (M.1 5 9 (tn a0)) = 5 then
            (M.1 5 10 (tn a0)) + 10
          else
            M.1 5 10 (tn a0)
set_option maxRecDepth 20000 in
theorem c_X9_slowTo {K : KT} {M : MT} {a0 : Int32} {a1 : Int32}  (ha0b : bd (a0) 8) : CM K 1 yX9_slowTo cX9_slowTo 4 (some FieldType.int) [rf K 140, .int a0, .int a1] M (some (.int (sp_X9_slowTo M a0 a1))) M := by
  refine CM.ofI (by decide) [some (rf K 140), some (.int a0), some (.int a1), none] rfl (Nat.le_of_ble_eq_true rfl) (Nat.le_of_ble_eq_true rfl) (fun G hG _ hret => ?_)
  refine r_aload_n (pc := 0) hG dX9_slowTo_0 rfl ?_
  refine gf_X9_own (pc := 1)  hG dX9_slowTo_1 tw_1175 ?_
  refine r_iload_n (pc := 4) hG dX9_slowTo_4 rfl ?_
  refine al_Mown (pc := 5)  hG dX9_slowTo_5 (ix_bd ha0b) ?_
  refine r_istore_n (pc := 6) (ls' := [_, _, _, _]) hG dX9_slowTo_6 rfl rfl ?_
  refine r_aload_n (pc := 7) hG dX9_slowTo_7 rfl ?_
  refine gf_X9_kind (pc := 8)  hG dX9_slowTo_8 tw_1174 ?_
  refine r_iload_n (pc := 11) hG dX9_slowTo_11 rfl ?_
  refine al_Mkind (pc := 12)  hG dX9_slowTo_12 (ix_bd ha0b) ?_
  by_cases c1 : (M.1 5 9 (tn a0)) = 1
  · refine r_tableIn (pc := 13) (tgt := 48) (off := 35) hG dX9_slowTo_13 (by rw [c1]; decide) (by rw [c1]; decide) (by rw [c1]; rfl) (by decide) ?_
    refine r_iconst (pc := 48) hG dX9_slowTo_48 ic_2 ?_
    refine r_iload_n (pc := 49) hG dX9_slowTo_49 rfl ?_
    refine r_imul (pc := 50) hG dX9_slowTo_50 ?_
    refine r_iconst (pc := 51) hG dX9_slowTo_51 ic_3 ?_
    refine r_iadd (pc := 52) hG dX9_slowTo_52 ?_
    exact hret _ _ _ _ dX9_slowTo_53 (Eq.symm (by unfold sp_X9_slowTo; exact (if_pos c1))) rfl
  · by_cases c2 : (M.1 5 9 (tn a0)) = 2
    · refine r_tableIn (pc := 13) (tgt := 54) (off := 41) hG dX9_slowTo_13 (by rw [c2]; decide) (by rw [c2]; decide) (by rw [c2]; rfl) (by decide) ?_
      refine r_iload_n (pc := 54) hG dX9_slowTo_54 rfl ?_
      refine r_iconst (pc := 55) hG dX9_slowTo_55 ic_2 ?_
      refine r_idiv (pc := 56) hG dX9_slowTo_56 (by decide) ?_
      exact hret _ _ _ _ dX9_slowTo_57 (Eq.symm (by unfold sp_X9_slowTo; exact ((if_neg c1).trans (if_pos c2)))) rfl
    · by_cases c3 : (M.1 5 9 (tn a0)) = 3
      · refine r_tableIn (pc := 13) (tgt := 58) (off := 45) hG dX9_slowTo_13 (by rw [c3]; decide) (by rw [c3]; decide) (by rw [c3]; rfl) (by decide) ?_
        refine r_iconst (pc := 58) hG dX9_slowTo_58 ic_2 ?_
        refine r_iload_n (pc := 59) hG dX9_slowTo_59 rfl ?_
        refine r_imul (pc := 60) hG dX9_slowTo_60 ?_
        refine r_iconst (pc := 61) hG dX9_slowTo_61 ic_3 ?_
        refine r_iadd (pc := 62) hG dX9_slowTo_62 ?_
        refine r_iload_n (pc := 63) hG dX9_slowTo_63 rfl ?_
        refine r_iadd (pc := 64) hG dX9_slowTo_64 ?_
        exact hret _ _ _ _ dX9_slowTo_65 (Eq.symm (by unfold sp_X9_slowTo; exact ((if_neg c1).trans ((if_neg c2).trans (if_pos c3))))) rfl
      · by_cases c4 : (M.1 5 9 (tn a0)) = 4
        · refine r_tableIn (pc := 13) (tgt := 66) (off := 53) hG dX9_slowTo_13 (by rw [c4]; decide) (by rw [c4]; decide) (by rw [c4]; rfl) (by decide) ?_
          refine r_iconst (pc := 66) hG dX9_slowTo_66 ic_0 ?_
          exact hret _ _ _ _ dX9_slowTo_67 (Eq.symm (by unfold sp_X9_slowTo; exact ((if_neg c1).trans ((if_neg c2).trans ((if_neg c3).trans (if_pos c4)))))) rfl
        · by_cases c5 : (M.1 5 9 (tn a0)) = 5
          · refine r_tableIn (pc := 13) (tgt := 68) (off := 55) hG dX9_slowTo_13 (by rw [c5]; decide) (by rw [c5]; decide) (by rw [c5]; rfl) (by decide) ?_
            refine r_iload_n (pc := 68) hG dX9_slowTo_68 rfl ?_
            refine r_bipush (pc := 69) hG dX9_slowTo_69 bc_10 ?_
            refine r_iadd (pc := 71) hG dX9_slowTo_71 ?_
            exact hret _ _ _ _ dX9_slowTo_72 (Eq.symm (by unfold sp_X9_slowTo; exact ((if_neg c1).trans ((if_neg c2).trans ((if_neg c3).trans ((if_neg c4).trans (if_pos c5))))))) rfl
          · have nc1 : Int32.toInt (M.1 5 9 (tn a0)) ≠ 1 := fun q => c1 (Int32.toInt_inj.mp q)
            have nc2 : Int32.toInt (M.1 5 9 (tn a0)) ≠ 2 := fun q => c2 (Int32.toInt_inj.mp q)
            have nc3 : Int32.toInt (M.1 5 9 (tn a0)) ≠ 3 := fun q => c3 (Int32.toInt_inj.mp q)
            have nc4 : Int32.toInt (M.1 5 9 (tn a0)) ≠ 4 := fun q => c4 (Int32.toInt_inj.mp q)
            have nc5 : Int32.toInt (M.1 5 9 (tn a0)) ≠ 5 := fun q => c5 (Int32.toInt_inj.mp q)
            refine r_tableOut (pc := 13) (tgt := 73) hG dX9_slowTo_13 (by omega) (by decide) ?_
            refine r_iload_n (pc := 73) hG dX9_slowTo_73 rfl ?_
            exact hret _ _ _ _ dX9_slowTo_74 (Eq.symm (by unfold sp_X9_slowTo; exact ((if_neg c1).trans ((if_neg c2).trans ((if_neg c3).trans ((if_neg c4).trans (if_neg c5))))))) rfl

def sp_X9_isComing (M : MT) (a0 : Int32) (a1 : Int32) : Bool :=
  if (M.1 5 3 2) < ((M.1 5 3 1) + (sp_X9_slowTo M a0 (M.1 5 7 (tn a1)))) then
    false
  else
    if (M.1 5 9 (tn a0)) = 5 then
      if (M.1 5 7 (tn a1)) = 1 then
        true
      else
        false
    else
      true
set_option maxRecDepth 20000 in
theorem c_X9_isComing {K : KT} {M : MT} {a0 : Int32} {a1 : Int32}  (ha0b : bd (a0) 8) (ha1b : bd (a1) 8) : CM K 2 yX9_isComing cX9_isComing 3 (some FieldType.boolean) [rf K 140, .int a0, .int a1] M (some (.int (bz (sp_X9_isComing M a0 a1)))) M := by
  refine CM.ofZ (by decide) [some (rf K 140), some (.int a0), some (.int a1)] rfl (Nat.le_of_ble_eq_true rfl) (Nat.le_of_ble_eq_true rfl) (fun G hG _ hret => ?_)
  refine r_aload_n (pc := 0) hG dX9_isComing_0 rfl ?_
  refine gf_X9_ways (pc := 1)  hG dX9_isComing_1 tw_1167 ?_
  refine r_iconst (pc := 4) hG dX9_isComing_4 ic_1 ?_
  refine al_Mways (pc := 5)  hG dX9_isComing_5 (ix_lit (j := 1) (by decide)) ?_
  refine r_aload_n (pc := 6) hG dX9_isComing_6 rfl ?_
  refine r_iload_n (pc := 7) hG dX9_isComing_7 rfl ?_
  refine r_aload_n (pc := 8) hG dX9_isComing_8 rfl ?_
  refine gf_X9_floor (pc := 9)  hG dX9_isComing_9 tw_1171 ?_
  refine r_iload_n (pc := 12) hG dX9_isComing_12 rfl ?_
  refine al_Mfloor (pc := 13)  hG dX9_isComing_13 (ix_bd ha1b) ?_
  refine cv_X9_slowTo (pc := 14)  hG dX9_isComing_14 tw_1319 (c_X9_slowTo ha0b) (by decide) (Nat.le_of_ble_eq_true rfl) ?_
  refine r_iadd (pc := 17) hG dX9_isComing_17 ?_
  refine r_aload_n (pc := 18) hG dX9_isComing_18 rfl ?_
  refine gf_X9_ways (pc := 19)  hG dX9_isComing_19 tw_1167 ?_
  refine r_iconst (pc := 22) hG dX9_isComing_22 ic_2 ?_
  refine al_Mways (pc := 23)  hG dX9_isComing_23 (ix_lit (j := 2) (by decide)) ?_
  refine r_icmp_gt (pc := 24) (tgt := 51) hG dX9_isComing_24 (by decide) (fun c1 => ?_) (fun c1 => ?_)
  · refine r_iconst (pc := 51) hG dX9_isComing_51 ic_0 ?_
    exact hret _ _ _ _ dX9_isComing_52 (bz_f (by unfold sp_X9_isComing; exact (if_pos c1))) rfl
  · refine r_aload_n (pc := 27) hG dX9_isComing_27 rfl ?_
    refine gf_X9_kind (pc := 28)  hG dX9_isComing_28 tw_1174 ?_
    refine r_iload_n (pc := 31) hG dX9_isComing_31 rfl ?_
    refine al_Mkind (pc := 32)  hG dX9_isComing_32 (ix_bd ha0b) ?_
    refine r_iconst (pc := 33) hG dX9_isComing_33 ic_5 ?_
    refine r_icmp_ne (pc := 34) (tgt := 47) hG dX9_isComing_34 (by decide) (fun c2 => ?_) (fun c2 => ?_)
    · refine r_iconst (pc := 47) hG dX9_isComing_47 ic_1 ?_
      refine r_goto (pc := 48) (tgt := 52) hG dX9_isComing_48 (by decide) ?_
      exact hret _ _ _ _ dX9_isComing_52 (bz_t (by unfold sp_X9_isComing; exact ((if_neg c1).trans (if_neg c2)))) rfl
    · refine r_aload_n (pc := 37) hG dX9_isComing_37 rfl ?_
      refine gf_X9_floor (pc := 38)  hG dX9_isComing_38 tw_1171 ?_
      refine r_iload_n (pc := 41) hG dX9_isComing_41 rfl ?_
      refine al_Mfloor (pc := 42)  hG dX9_isComing_42 (ix_bd ha1b) ?_
      refine r_iconst (pc := 43) hG dX9_isComing_43 ic_1 ?_
      refine r_icmp_ne (pc := 44) (tgt := 51) hG dX9_isComing_44 (by decide) (fun c3 => ?_) (fun c3 => ?_)
      · refine r_iconst (pc := 51) hG dX9_isComing_51 ic_0 ?_
        exact hret _ _ _ _ dX9_isComing_52 (bz_f (by unfold sp_X9_isComing; exact ((if_neg c1).trans ((if_pos c2).trans (if_neg c3))))) rfl
      · refine r_iconst (pc := 47) hG dX9_isComing_47 ic_1 ?_
        refine r_goto (pc := 48) (tgt := 52) hG dX9_isComing_48 (by decide) ?_
        exact hret _ _ _ _ dX9_isComing_52 (bz_t (by unfold sp_X9_isComing; exact ((if_neg c1).trans ((if_pos c2).trans (if_pos c3))))) rfl

def st_X9_hitFrom_4 (M : MT) (a0 : Int32) (i : Nat) (b4 : Int32) : Int32 :=
  if (sp_X9_caughtBy M a0 ((nI i) / 3) (irm (nI i) 3)) = (-1) then
    b4
  else
    b4 ||| (1 <<< ((sp_X9_caughtBy M a0 ((nI i) / 3) (irm (nI i) 3)) &&& 31))
def sp_X9_hitFrom (M : MT) (a0 : Int32) : Int32 :=
  itN 30 (st_X9_hitFrom_4 M a0) 0
set_option maxRecDepth 20000 in
theorem c_X9_hitFrom {K : KT} {M : MT} {a0 : Int32}  (ha0b : bd (a0) 8) (hpc5 : bd (M.1 5 1 0) 9) : CM K 6 yX9_hitFrom cX9_hitFrom 5 (some FieldType.int) [rf K 140, .int a0] M (some (.int (sp_X9_hitFrom M a0))) M := by
  refine CM.ofI (by decide) [some (rf K 140), some (.int a0), none, none, none] rfl (Nat.le_of_ble_eq_true rfl) (Nat.le_of_ble_eq_true rfl) (fun G hG _ hret => ?_)
  have hpl5 := bd_lt hpc5
  refine r_iconst (pc := 0) hG dX9_hitFrom_0 ic_0 ?_
  refine r_istore_n (pc := 1) (ls' := [_, _, _, _, _]) hG dX9_hitFrom_1 rfl rfl ?_
  refine r_iconst (pc := 2) hG dX9_hitFrom_2 ic_0 ?_
  refine r_istore_n (pc := 3) (ls' := [_, _, _, _, _]) hG dX9_hitFrom_3 rfl rfl ?_
  have lp4 : ∀ i, i ≤ 30 → ∀ b4 : Int32, b4 = itN i (st_X9_hitFrom_4 M a0) 0 → J G K M 4 [some (rf K 140), some (.int a0), some (.int b4), some (.int (nI i)), none] [] := by
    refine up_ind 30 (fun i hi4 ih4 => ?_)
    intro b4 hg4
    refine r_iload_n (pc := 4) hG dX9_hitFrom_4 rfl ?_
    refine r_bipush (pc := 5) hG dX9_hitFrom_5 bc_30 ?_
    refine r_icmp_ge (pc := 7) (tgt := 42) hG dX9_hitFrom_7 (by decide) (fun c1 => ?_) (fun c1 => ?_)
    · have e4 : i = 30 := by have := (le_nI (k := 30) (i := i) (Nat.le_of_ble_eq_true rfl) (by omega)).mp c1; omega
      subst hg4
      subst e4
      refine r_iload_n (pc := 42) hG dX9_hitFrom_42 rfl ?_
      exact hret _ _ _ _ dX9_hitFrom_43 (Eq.symm (by unfold sp_X9_hitFrom; exact rfl)) rfl
    · have hl4 : i < 30 := by have := mt (le_nI (k := 30) (i := i) (Nat.le_of_ble_eq_true rfl) (by omega)).mpr c1; omega
      refine r_aload_n (pc := 10) hG dX9_hitFrom_10 rfl ?_
      refine r_iload_n (pc := 11) hG dX9_hitFrom_11 rfl ?_
      refine r_iload_n (pc := 12) hG dX9_hitFrom_12 rfl ?_
      refine r_iconst (pc := 13) hG dX9_hitFrom_13 ic_3 ?_
      refine r_idiv (pc := 14) hG dX9_hitFrom_14 (by decide) ?_
      refine r_iload_n (pc := 15) hG dX9_hitFrom_15 rfl ?_
      refine r_iconst (pc := 16) hG dX9_hitFrom_16 ic_3 ?_
      refine r_irem (pc := 17) hG dX9_hitFrom_17 (by decide) ?_
      refine cv_X9_caughtBy (pc := 18)  hG dX9_hitFrom_18 tw_1450 (c_X9_caughtBy ha0b hpc5) (by decide) (Nat.le_of_ble_eq_true rfl) ?_
      refine r_istore (pc := 21) (ls' := [_, _, _, _, _]) hG dX9_hitFrom_21 rfl rfl ?_
      refine r_iload (pc := 23) hG dX9_hitFrom_23 rfl ?_
      refine r_iconst (pc := 25) hG dX9_hitFrom_25 ic_m1 ?_
      refine r_icmp_eq (pc := 26) (tgt := 36) hG dX9_hitFrom_26 (by decide) (fun c2 => ?_) (fun c2 => ?_)
      · refine r_iinc (pc := 36) (v := nI (i + 1)) (ls' := [_, _, _, _, _]) hG dX9_hitFrom_36 rfl (nI_1 _) rfl rfl ?_
        refine r_goto (pc := 39) (tgt := 4) hG dX9_hitFrom_39 (by decide) ?_
        have eN4 : b4 = st_X9_hitFrom_4 M a0 i (itN i (st_X9_hitFrom_4 M a0) 0) := by rw [← hg4]; unfold st_X9_hitFrom_4; exact Eq.symm (if_pos c2)
        refine J.wk (ls' := [some (rf K 140), some (.int a0), some (.int b4), some (.int (nI (i + 1))), none]) ?_ (Eq.refl 5) (wk_s rfl (wk_s rfl (wk_s rfl (wk_s rfl (wk_n wk_0)))))
        exact ih4 hl4 b4 eN4
      · refine r_iload_n (pc := 29) hG dX9_hitFrom_29 rfl ?_
        refine r_iconst (pc := 30) hG dX9_hitFrom_30 ic_1 ?_
        refine r_iload (pc := 31) hG dX9_hitFrom_31 rfl ?_
        refine r_ishl (pc := 33) hG dX9_hitFrom_33 ?_
        refine r_ior (pc := 34) hG dX9_hitFrom_34 ?_
        refine r_istore_n (pc := 35) (ls' := [_, _, _, _, _]) hG dX9_hitFrom_35 rfl rfl ?_
        refine r_iinc (pc := 36) (v := nI (i + 1)) (ls' := [_, _, _, _, _]) hG dX9_hitFrom_36 rfl (nI_1 _) rfl rfl ?_
        refine r_goto (pc := 39) (tgt := 4) hG dX9_hitFrom_39 (by decide) ?_
        have eN4 : b4 ||| (1 <<< ((sp_X9_caughtBy M a0 ((nI i) / 3) (irm (nI i) 3)) &&& 31)) = st_X9_hitFrom_4 M a0 i (itN i (st_X9_hitFrom_4 M a0) 0) := by rw [← hg4]; unfold st_X9_hitFrom_4; exact Eq.symm (if_neg c2)
        refine J.wk (ls' := [some (rf K 140), some (.int a0), some (.int (b4 ||| (1 <<< ((sp_X9_caughtBy M a0 ((nI i) / 3) (irm (nI i) 3)) &&& 31)))), some (.int (nI (i + 1))), none]) ?_ (Eq.refl 5) (wk_s rfl (wk_s rfl (wk_s rfl (wk_s rfl (wk_n wk_0)))))
        exact ih4 hl4 (b4 ||| (1 <<< ((sp_X9_caughtBy M a0 ((nI i) / 3) (irm (nI i) 3)) &&& 31))) eN4
  exact (lp4 0 (Nat.zero_le _) _ rfl).wk (Eq.refl 5) (wk_s rfl (wk_s rfl (wk_s rfl (wk_s rfl (wk_n wk_0)))))

def st_X9_openTo_4 (M : MT) (a0 : Int32) (i : Nat) (b4 : Int32) : Int32 :=
  if (sp_X9_landing M a0 ((nI i) / 3) (irm (nI i) 3)) = (-1) then
    b4
  else
    b4 ||| (1 <<< ((sp_X9_landing M a0 ((nI i) / 3) (irm (nI i) 3)) &&& 31))
def sp_X9_openTo (M : MT) (a0 : Int32) : Int32 :=
  itN 30 (st_X9_openTo_4 M a0) 0
set_option maxRecDepth 20000 in
theorem c_X9_openTo {K : KT} {M : MT} {a0 : Int32}  (ha0b : bd (a0) 8) : CM K 4 yX9_openTo cX9_openTo 5 (some FieldType.int) [rf K 140, .int a0] M (some (.int (sp_X9_openTo M a0))) M := by
  refine CM.ofI (by decide) [some (rf K 140), some (.int a0), none, none, none] rfl (Nat.le_of_ble_eq_true rfl) (Nat.le_of_ble_eq_true rfl) (fun G hG _ hret => ?_)
  refine r_iconst (pc := 0) hG dX9_openTo_0 ic_0 ?_
  refine r_istore_n (pc := 1) (ls' := [_, _, _, _, _]) hG dX9_openTo_1 rfl rfl ?_
  refine r_iconst (pc := 2) hG dX9_openTo_2 ic_0 ?_
  refine r_istore_n (pc := 3) (ls' := [_, _, _, _, _]) hG dX9_openTo_3 rfl rfl ?_
  have lp4 : ∀ i, i ≤ 30 → ∀ b4 : Int32, b4 = itN i (st_X9_openTo_4 M a0) 0 → J G K M 4 [some (rf K 140), some (.int a0), some (.int b4), some (.int (nI i)), none] [] := by
    refine up_ind 30 (fun i hi4 ih4 => ?_)
    intro b4 hg4
    refine r_iload_n (pc := 4) hG dX9_openTo_4 rfl ?_
    refine r_bipush (pc := 5) hG dX9_openTo_5 bc_30 ?_
    refine r_icmp_ge (pc := 7) (tgt := 42) hG dX9_openTo_7 (by decide) (fun c1 => ?_) (fun c1 => ?_)
    · have e4 : i = 30 := by have := (le_nI (k := 30) (i := i) (Nat.le_of_ble_eq_true rfl) (by omega)).mp c1; omega
      subst hg4
      subst e4
      refine r_iload_n (pc := 42) hG dX9_openTo_42 rfl ?_
      exact hret _ _ _ _ dX9_openTo_43 (Eq.symm (by unfold sp_X9_openTo; exact rfl)) rfl
    · have hl4 : i < 30 := by have := mt (le_nI (k := 30) (i := i) (Nat.le_of_ble_eq_true rfl) (by omega)).mpr c1; omega
      refine r_aload_n (pc := 10) hG dX9_openTo_10 rfl ?_
      refine r_iload_n (pc := 11) hG dX9_openTo_11 rfl ?_
      refine r_iload_n (pc := 12) hG dX9_openTo_12 rfl ?_
      refine r_iconst (pc := 13) hG dX9_openTo_13 ic_3 ?_
      refine r_idiv (pc := 14) hG dX9_openTo_14 (by decide) ?_
      refine r_iload_n (pc := 15) hG dX9_openTo_15 rfl ?_
      refine r_iconst (pc := 16) hG dX9_openTo_16 ic_3 ?_
      refine r_irem (pc := 17) hG dX9_openTo_17 (by decide) ?_
      refine cv_X9_landing (pc := 18)  hG dX9_openTo_18 tw_1442 (c_X9_landing ha0b) (by decide) (Nat.le_of_ble_eq_true rfl) ?_
      refine r_istore (pc := 21) (ls' := [_, _, _, _, _]) hG dX9_openTo_21 rfl rfl ?_
      refine r_iload (pc := 23) hG dX9_openTo_23 rfl ?_
      refine r_iconst (pc := 25) hG dX9_openTo_25 ic_m1 ?_
      refine r_icmp_eq (pc := 26) (tgt := 36) hG dX9_openTo_26 (by decide) (fun c2 => ?_) (fun c2 => ?_)
      · refine r_iinc (pc := 36) (v := nI (i + 1)) (ls' := [_, _, _, _, _]) hG dX9_openTo_36 rfl (nI_1 _) rfl rfl ?_
        refine r_goto (pc := 39) (tgt := 4) hG dX9_openTo_39 (by decide) ?_
        have eN4 : b4 = st_X9_openTo_4 M a0 i (itN i (st_X9_openTo_4 M a0) 0) := by rw [← hg4]; unfold st_X9_openTo_4; exact Eq.symm (if_pos c2)
        refine J.wk (ls' := [some (rf K 140), some (.int a0), some (.int b4), some (.int (nI (i + 1))), none]) ?_ (Eq.refl 5) (wk_s rfl (wk_s rfl (wk_s rfl (wk_s rfl (wk_n wk_0)))))
        exact ih4 hl4 b4 eN4
      · refine r_iload_n (pc := 29) hG dX9_openTo_29 rfl ?_
        refine r_iconst (pc := 30) hG dX9_openTo_30 ic_1 ?_
        refine r_iload (pc := 31) hG dX9_openTo_31 rfl ?_
        refine r_ishl (pc := 33) hG dX9_openTo_33 ?_
        refine r_ior (pc := 34) hG dX9_openTo_34 ?_
        refine r_istore_n (pc := 35) (ls' := [_, _, _, _, _]) hG dX9_openTo_35 rfl rfl ?_
        refine r_iinc (pc := 36) (v := nI (i + 1)) (ls' := [_, _, _, _, _]) hG dX9_openTo_36 rfl (nI_1 _) rfl rfl ?_
        refine r_goto (pc := 39) (tgt := 4) hG dX9_openTo_39 (by decide) ?_
        have eN4 : b4 ||| (1 <<< ((sp_X9_landing M a0 ((nI i) / 3) (irm (nI i) 3)) &&& 31)) = st_X9_openTo_4 M a0 i (itN i (st_X9_openTo_4 M a0) 0) := by rw [← hg4]; unfold st_X9_openTo_4; exact Eq.symm (if_neg c2)
        refine J.wk (ls' := [some (rf K 140), some (.int a0), some (.int (b4 ||| (1 <<< ((sp_X9_landing M a0 ((nI i) / 3) (irm (nI i) 3)) &&& 31)))), some (.int (nI (i + 1))), none]) ?_ (Eq.refl 5) (wk_s rfl (wk_s rfl (wk_s rfl (wk_s rfl (wk_n wk_0)))))
        exact ih4 hl4 (b4 ||| (1 <<< ((sp_X9_landing M a0 ((nI i) / 3) (irm (nI i) 3)) &&& 31))) eN4
  exact (lp4 0 (Nat.zero_le _) _ rfl).wk (Eq.refl 5) (wk_s rfl (wk_s rfl (wk_s rfl (wk_s rfl (wk_n wk_0)))))

def ps_X9_mayBeHers_2 (M : MT) (a0 : Int32) (a1 : Int32) (i : Nat) : Bool :=
  if (sp_X9_landing M a1 ((nI i) / 3) (irm (nI i) 3)) = (-1) then
    false
  else
    if (sp_X9_reach M a0) < (sp_X9_away M a0 (sp_X9_landing M a1 ((nI i) / 3) (irm (nI i) 3))) then
      false
    else
      true
def sp_X9_mayBeHers (M : MT) (a0 : Int32) (a1 : Int32) : Bool :=
  fndN (ps_X9_mayBeHers_2 M a0 a1) (fun i => (if (sp_X9_landing M a1 ((nI i) / 3) (irm (nI i) 3)) = (-1) then
  false
else
  if (sp_X9_reach M a0) < (sp_X9_away M a0 (sp_X9_landing M a1 ((nI i) / 3) (irm (nI i) 3))) then
    false
  else
    true)) (false) 30 0
set_option maxRecDepth 20000 in
theorem c_X9_mayBeHers {K : KT} {M : MT} {a0 : Int32} {a1 : Int32}  (ha0b : bd (a0) 8) (ha1b : bd (a1) 8) : CM K 4 yX9_mayBeHers cX9_mayBeHers 5 (some FieldType.boolean) [rf K 140, .int a0, .int a1] M (some (.int (bz (sp_X9_mayBeHers M a0 a1)))) M := by
  refine CM.ofZ (by decide) [some (rf K 140), some (.int a0), some (.int a1), none, none] rfl (Nat.le_of_ble_eq_true rfl) (Nat.le_of_ble_eq_true rfl) (fun G hG _ hret => ?_)
  refine r_iconst (pc := 0) hG dX9_mayBeHers_0 ic_0 ?_
  refine r_istore_n (pc := 1) (ls' := [_, _, _, _, _]) hG dX9_mayBeHers_1 rfl rfl ?_
  have lp2 : ∀ i, i ≤ 30 → (∀ k, k < i → ps_X9_mayBeHers_2 M a0 a1 k = false) → J G K M 2 [some (rf K 140), some (.int a0), some (.int a1), some (.int (nI i)), none] [] := by
    refine up_ind 30 (fun i hi2 ih2 => ?_)
    intro hp2
    refine r_iload_n (pc := 2) hG dX9_mayBeHers_2 rfl ?_
    refine r_bipush (pc := 3) hG dX9_mayBeHers_3 bc_30 ?_
    refine r_icmp_ge (pc := 5) (tgt := 50) hG dX9_mayBeHers_5 (by decide) (fun c1 => ?_) (fun c1 => ?_)
    · have e2 : i = 30 := by have := (le_nI (k := 30) (i := i) (Nat.le_of_ble_eq_true rfl) (by omega)).mp c1; omega
      subst e2
      refine r_iconst (pc := 50) hG dX9_mayBeHers_50 ic_0 ?_
      exact hret _ _ _ _ dX9_mayBeHers_51 (bz_f (by unfold sp_X9_mayBeHers; exact (fndN_none 30 0 (fun k _ hk => hp2 k (by omega))))) rfl
    · have hl2 : i < 30 := by have := mt (le_nI (k := 30) (i := i) (Nat.le_of_ble_eq_true rfl) (by omega)).mpr c1; omega
      refine r_aload_n (pc := 8) hG dX9_mayBeHers_8 rfl ?_
      refine r_iload_n (pc := 9) hG dX9_mayBeHers_9 rfl ?_
      refine r_iload_n (pc := 10) hG dX9_mayBeHers_10 rfl ?_
      refine r_iconst (pc := 11) hG dX9_mayBeHers_11 ic_3 ?_
      refine r_idiv (pc := 12) hG dX9_mayBeHers_12 (by decide) ?_
      refine r_iload_n (pc := 13) hG dX9_mayBeHers_13 rfl ?_
      refine r_iconst (pc := 14) hG dX9_mayBeHers_14 ic_3 ?_
      refine r_irem (pc := 15) hG dX9_mayBeHers_15 (by decide) ?_
      refine cv_X9_landing (pc := 16)  hG dX9_mayBeHers_16 tw_1442 (c_X9_landing ha1b) (by decide) (Nat.le_of_ble_eq_true rfl) ?_
      refine r_istore (pc := 19) (ls' := [_, _, _, _, _]) hG dX9_mayBeHers_19 rfl rfl ?_
      refine r_iload (pc := 21) hG dX9_mayBeHers_21 rfl ?_
      refine r_iconst (pc := 23) hG dX9_mayBeHers_23 ic_m1 ?_
      refine r_icmp_eq (pc := 24) (tgt := 44) hG dX9_mayBeHers_24 (by decide) (fun c2 => ?_) (fun c2 => ?_)
      · refine r_iinc (pc := 44) (v := nI (i + 1)) (ls' := [_, _, _, _, _]) hG dX9_mayBeHers_44 rfl (nI_1 _) rfl rfl ?_
        refine r_goto (pc := 47) (tgt := 2) hG dX9_mayBeHers_47 (by decide) ?_
        exact (ih2 hl2 (fun k hk => (Nat.lt_or_eq_of_le (Nat.le_of_lt_succ hk)).elim (hp2 k) (fun q => by subst q; unfold ps_X9_mayBeHers_2; exact (if_pos c2)))).wk (Eq.refl 5) (wk_s rfl (wk_s rfl (wk_s rfl (wk_s rfl (wk_n wk_0)))))
      · refine r_aload_n (pc := 27) hG dX9_mayBeHers_27 rfl ?_
        refine r_iload_n (pc := 28) hG dX9_mayBeHers_28 rfl ?_
        refine r_iload (pc := 29) hG dX9_mayBeHers_29 rfl ?_
        refine cv_X9_away (pc := 31)  hG dX9_mayBeHers_31 tw_1462 (c_X9_away ha0b) (by decide) (Nat.le_of_ble_eq_true rfl) ?_
        refine r_aload_n (pc := 34) hG dX9_mayBeHers_34 rfl ?_
        refine r_iload_n (pc := 35) hG dX9_mayBeHers_35 rfl ?_
        refine cv_X9_reach (pc := 36)  hG dX9_mayBeHers_36 tw_1422 (c_X9_reach ha0b) (by decide) (Nat.le_of_ble_eq_true rfl) ?_
        refine r_icmp_gt (pc := 39) (tgt := 44) hG dX9_mayBeHers_39 (by decide) (fun c3 => ?_) (fun c3 => ?_)
        · refine r_iinc (pc := 44) (v := nI (i + 1)) (ls' := [_, _, _, _, _]) hG dX9_mayBeHers_44 rfl (nI_1 _) rfl rfl ?_
          refine r_goto (pc := 47) (tgt := 2) hG dX9_mayBeHers_47 (by decide) ?_
          exact (ih2 hl2 (fun k hk => (Nat.lt_or_eq_of_le (Nat.le_of_lt_succ hk)).elim (hp2 k) (fun q => by subst q; unfold ps_X9_mayBeHers_2; exact ((if_neg c2).trans (if_pos c3))))).wk (Eq.refl 5) (wk_s rfl (wk_s rfl (wk_s rfl (wk_s rfl (wk_n wk_0)))))
        · refine r_iconst (pc := 42) hG dX9_mayBeHers_42 ic_1 ?_
          exact hret _ _ _ _ dX9_mayBeHers_43 (bz_t (by unfold sp_X9_mayBeHers; exact ((fndN_hit 30 0 i (Nat.zero_le _) (by omega) (by unfold ps_X9_mayBeHers_2; exact ((if_neg c2).trans (if_neg c3))) (fun k _ hk => hp2 k hk)).trans ((if_neg c2).trans (if_neg c3))))) rfl
  exact (lp2 0 (Nat.zero_le _) (fun k hk => absurd hk (Nat.not_lt_zero k))).wk (Eq.refl 5) (wk_s rfl (wk_s rfl (wk_s rfl (wk_s rfl (wk_n wk_0)))))

def sp_X9_fondness (M : MT) (a0 : Int32) (a1 : Int32) : Int32 :=
  10 - (iabs ((M.1 5 8 (tn a0)) - (M.1 5 10 (tn a1))))
set_option maxRecDepth 20000 in
theorem c_X9_fondness {K : KT} {M : MT} {a0 : Int32} {a1 : Int32}  (ha0b : bd (a0) 8) (ha1b : bd (a1) 8) : CM K 2 yX9_fondness cX9_fondness 3 (some FieldType.int) [rf K 140, .int a0, .int a1] M (some (.int (sp_X9_fondness M a0 a1))) M := by
  refine CM.ofI (by decide) [some (rf K 140), some (.int a0), some (.int a1)] rfl (Nat.le_of_ble_eq_true rfl) (Nat.le_of_ble_eq_true rfl) (fun G hG _ hret => ?_)
  refine r_bipush (pc := 0) hG dX9_fondness_0 bc_10 ?_
  refine r_aload_n (pc := 2) hG dX9_fondness_2 rfl ?_
  refine gf_X9_thorns (pc := 3)  hG dX9_fondness_3 tw_1172 ?_
  refine r_iload_n (pc := 6) hG dX9_fondness_6 rfl ?_
  refine al_Mthorns (pc := 7)  hG dX9_fondness_7 (ix_bd ha0b) ?_
  refine r_aload_n (pc := 8) hG dX9_fondness_8 rfl ?_
  refine gf_X9_own (pc := 9)  hG dX9_fondness_9 tw_1175 ?_
  refine r_iload_n (pc := 12) hG dX9_fondness_12 rfl ?_
  refine al_Mown (pc := 13)  hG dX9_fondness_13 (ix_bd ha1b) ?_
  refine r_isub (pc := 14) hG dX9_fondness_14 ?_
  refine r_mabs (pc := 15) hG dX9_fondness_15 tw_1466 (by decide) (Nat.le_of_ble_eq_true rfl) ?_
  refine r_isub (pc := 18) hG dX9_fondness_18 ?_
  exact hret _ _ _ _ dX9_fondness_19 (Eq.symm (by unfold sp_X9_fondness; exact rfl)) rfl

def st_X9_queueOf_5 (M : MT) (a0 : Int32) (a1 : Int32) (i : Nat) (b5 : Int32) : Int32 :=
  if (M.1 5 12 i) = a0 then
    if (M.1 5 13 i) = a1 then
      b5 + 1
    else
      b5
  else
    b5
def sp_X9_queueOf (M : MT) (a0 : Int32) (a1 : Int32) : Int32 :=
  itN (tn (M.1 5 1 0)) (st_X9_queueOf_5 M a0 a1) 0
set_option maxRecDepth 20000 in
theorem c_X9_queueOf {K : KT} {M : MT} {a0 : Int32} {a1 : Int32}  (hpc5 : bd (M.1 5 1 0) 9) : CM K 1 yX9_queueOf cX9_queueOf 5 (some FieldType.int) [rf K 140, .int a0, .int a1] M (some (.int (sp_X9_queueOf M a0 a1))) M := by
  refine CM.ofI (by decide) [some (rf K 140), some (.int a0), some (.int a1), none, none] rfl (Nat.le_of_ble_eq_true rfl) (Nat.le_of_ble_eq_true rfl) (fun G hG _ hret => ?_)
  have hpl5 := bd_lt hpc5
  refine r_iconst (pc := 0) hG dX9_queueOf_0 ic_0 ?_
  refine r_istore_n (pc := 1) (ls' := [_, _, _, _, _]) hG dX9_queueOf_1 rfl rfl ?_
  refine r_iconst (pc := 2) hG dX9_queueOf_2 ic_0 ?_
  refine r_istore (pc := 3) (ls' := [_, _, _, _, _]) hG dX9_queueOf_3 rfl rfl ?_
  have hb5 : bd (M.1 5 1 0) 9 := hpc5
  have hb5l := bd_lt hb5
  have lp5 : ∀ i, i ≤ (tn (M.1 5 1 0)) → ∀ b5 : Int32, b5 = itN i (st_X9_queueOf_5 M a0 a1) 0 → J G K M 5 [some (rf K 140), some (.int a0), some (.int a1), some (.int b5), some (.int (nI i))] [] := by
    refine up_ind (tn (M.1 5 1 0)) (fun i hi5 ih5 => ?_)
    intro b5 hg5
    refine r_iload (pc := 5) hG dX9_queueOf_5 rfl ?_
    refine r_aload_n (pc := 7) hG dX9_queueOf_7 rfl ?_
    refine gf_X9_people (pc := 8)  hG dX9_queueOf_8 tw_1173 ?_
    refine r_icmp_ge (pc := 11) (tgt := 45) hG dX9_queueOf_11 (by decide) (fun c1 => ?_) (fun c1 => ?_)
    · have e5 : i = (tn (M.1 5 1 0)) := by have := (bd_le hb5 (by omega)).mp c1; omega
      subst hg5
      subst e5
      refine r_iload_n (pc := 45) hG dX9_queueOf_45 rfl ?_
      exact hret _ _ _ _ dX9_queueOf_46 (Eq.symm (by unfold sp_X9_queueOf; exact rfl)) rfl
    · have hl5 : i < (tn (M.1 5 1 0)) := by have := mt (bd_le hb5 (by omega)).mpr c1; omega
      refine r_aload_n (pc := 14) hG dX9_queueOf_14 rfl ?_
      refine gf_X9_rose (pc := 15)  hG dX9_queueOf_15 tw_1177 ?_
      refine r_iload (pc := 18) hG dX9_queueOf_18 rfl ?_
      refine al_Mrose (pc := 20)  hG dX9_queueOf_20 (ix_nI (by omega) (Nat.le_of_ble_eq_true rfl)) ?_
      refine r_iload_n (pc := 21) hG dX9_queueOf_21 rfl ?_
      refine r_icmp_ne (pc := 22) (tgt := 39) hG dX9_queueOf_22 (by decide) (fun c2 => ?_) (fun c2 => ?_)
      · refine r_iinc (pc := 39) (v := nI (i + 1)) (ls' := [_, _, _, _, _]) hG dX9_queueOf_39 rfl (nI_1 _) rfl rfl ?_
        refine r_goto (pc := 42) (tgt := 5) hG dX9_queueOf_42 (by decide) ?_
        have eN5 : b5 = st_X9_queueOf_5 M a0 a1 i (itN i (st_X9_queueOf_5 M a0 a1) 0) := by rw [← hg5]; unfold st_X9_queueOf_5; exact Eq.symm (if_neg c2)
        refine J.wk (ls' := [some (rf K 140), some (.int a0), some (.int a1), some (.int b5), some (.int (nI (i + 1)))]) ?_ (Eq.refl 5) (wk_s rfl (wk_s rfl (wk_s rfl (wk_s rfl (wk_s rfl wk_0)))))
        exact ih5 hl5 b5 eN5
      · refine r_aload_n (pc := 25) hG dX9_queueOf_25 rfl ?_
        refine gf_X9_due (pc := 26)  hG dX9_queueOf_26 tw_1178 ?_
        refine r_iload (pc := 29) hG dX9_queueOf_29 rfl ?_
        refine al_Mdue (pc := 31)  hG dX9_queueOf_31 (ix_nI (by omega) (Nat.le_of_ble_eq_true rfl)) ?_
        refine r_iload_n (pc := 32) hG dX9_queueOf_32 rfl ?_
        refine r_icmp_ne (pc := 33) (tgt := 39) hG dX9_queueOf_33 (by decide) (fun c3 => ?_) (fun c3 => ?_)
        · refine r_iinc (pc := 39) (v := nI (i + 1)) (ls' := [_, _, _, _, _]) hG dX9_queueOf_39 rfl (nI_1 _) rfl rfl ?_
          refine r_goto (pc := 42) (tgt := 5) hG dX9_queueOf_42 (by decide) ?_
          have eN5 : b5 = st_X9_queueOf_5 M a0 a1 i (itN i (st_X9_queueOf_5 M a0 a1) 0) := by rw [← hg5]; unfold st_X9_queueOf_5; exact Eq.symm ((if_pos c2).trans (if_neg c3))
          refine J.wk (ls' := [some (rf K 140), some (.int a0), some (.int a1), some (.int b5), some (.int (nI (i + 1)))]) ?_ (Eq.refl 5) (wk_s rfl (wk_s rfl (wk_s rfl (wk_s rfl (wk_s rfl wk_0)))))
          exact ih5 hl5 b5 eN5
        · refine r_iinc (pc := 36) (v := b5 + 1) (ls' := [_, _, _, _, _]) hG dX9_queueOf_36 rfl rfl rfl rfl ?_
          refine r_iinc (pc := 39) (v := nI (i + 1)) (ls' := [_, _, _, _, _]) hG dX9_queueOf_39 rfl (nI_1 _) rfl rfl ?_
          refine r_goto (pc := 42) (tgt := 5) hG dX9_queueOf_42 (by decide) ?_
          have eN5 : b5 + 1 = st_X9_queueOf_5 M a0 a1 i (itN i (st_X9_queueOf_5 M a0 a1) 0) := by rw [← hg5]; unfold st_X9_queueOf_5; exact Eq.symm ((if_pos c2).trans (if_pos c3))
          refine J.wk (ls' := [some (rf K 140), some (.int a0), some (.int a1), some (.int (b5 + 1)), some (.int (nI (i + 1)))]) ?_ (Eq.refl 5) (wk_s rfl (wk_s rfl (wk_s rfl (wk_s rfl (wk_s rfl wk_0)))))
          exact ih5 hl5 (b5 + 1) eN5
  exact (lp5 0 (Nat.zero_le _) _ rfl).wk (Eq.refl 5) (wk_s rfl (wk_s rfl (wk_s rfl (wk_s rfl (wk_s rfl wk_0)))))

def st_X9_firstDue_6 (M : MT) (i : Nat) (b6 : Int32) : Int32 :=
  if (M.1 5 13 i) = (-1) then
    b6
  else
    imin b6 (M.1 5 13 i)
def sp_X9_firstDue (M : MT) : Int32 :=
  itN (tn (M.1 5 1 0)) (st_X9_firstDue_6 M) 1000
set_option maxRecDepth 20000 in
theorem c_X9_firstDue {K : KT} {M : MT}   (hpc5 : bd (M.1 5 1 0) 9) : CM K 2 yX9_firstDue cX9_firstDue 3 (some FieldType.int) [rf K 140] M (some (.int (sp_X9_firstDue M))) M := by
  refine CM.ofI (by decide) [some (rf K 140), none, none] rfl (Nat.le_of_ble_eq_true rfl) (Nat.le_of_ble_eq_true rfl) (fun G hG _ hret => ?_)
  have hpl5 := bd_lt hpc5
  refine r_sipush (pc := 0) hG dX9_firstDue_0 sc_1000 ?_
  refine r_istore_n (pc := 3) (ls' := [_, _, _]) hG dX9_firstDue_3 rfl rfl ?_
  refine r_iconst (pc := 4) hG dX9_firstDue_4 ic_0 ?_
  refine r_istore_n (pc := 5) (ls' := [_, _, _]) hG dX9_firstDue_5 rfl rfl ?_
  have hb6 : bd (M.1 5 1 0) 9 := hpc5
  have hb6l := bd_lt hb6
  have lp6 : ∀ i, i ≤ (tn (M.1 5 1 0)) → ∀ b6 : Int32, b6 = itN i (st_X9_firstDue_6 M) 1000 → J G K M 6 [some (rf K 140), some (.int b6), some (.int (nI i))] [] := by
    refine up_ind (tn (M.1 5 1 0)) (fun i hi6 ih6 => ?_)
    intro b6 hg6
    refine r_iload_n (pc := 6) hG dX9_firstDue_6 rfl ?_
    refine r_aload_n (pc := 7) hG dX9_firstDue_7 rfl ?_
    refine gf_X9_people (pc := 8)  hG dX9_firstDue_8 tw_1173 ?_
    refine r_icmp_ge (pc := 11) (tgt := 41) hG dX9_firstDue_11 (by decide) (fun c1 => ?_) (fun c1 => ?_)
    · have e6 : i = (tn (M.1 5 1 0)) := by have := (bd_le hb6 (by omega)).mp c1; omega
      subst hg6
      subst e6
      refine r_iload_n (pc := 41) hG dX9_firstDue_41 rfl ?_
      exact hret _ _ _ _ dX9_firstDue_42 (Eq.symm (by unfold sp_X9_firstDue; exact rfl)) rfl
    · have hl6 : i < (tn (M.1 5 1 0)) := by have := mt (bd_le hb6 (by omega)).mpr c1; omega
      refine r_aload_n (pc := 14) hG dX9_firstDue_14 rfl ?_
      refine gf_X9_due (pc := 15)  hG dX9_firstDue_15 tw_1178 ?_
      refine r_iload_n (pc := 18) hG dX9_firstDue_18 rfl ?_
      refine al_Mdue (pc := 19)  hG dX9_firstDue_19 (ix_nI (by omega) (Nat.le_of_ble_eq_true rfl)) ?_
      refine r_iconst (pc := 20) hG dX9_firstDue_20 ic_m1 ?_
      refine r_icmp_eq (pc := 21) (tgt := 35) hG dX9_firstDue_21 (by decide) (fun c2 => ?_) (fun c2 => ?_)
      · refine r_iinc (pc := 35) (v := nI (i + 1)) (ls' := [_, _, _]) hG dX9_firstDue_35 rfl (nI_1 _) rfl rfl ?_
        refine r_goto (pc := 38) (tgt := 6) hG dX9_firstDue_38 (by decide) ?_
        have eN6 : b6 = st_X9_firstDue_6 M i (itN i (st_X9_firstDue_6 M) 1000) := by rw [← hg6]; unfold st_X9_firstDue_6; exact Eq.symm (if_pos c2)
        refine J.wk (ls' := [some (rf K 140), some (.int b6), some (.int (nI (i + 1)))]) ?_ (Eq.refl 3) (wk_s rfl (wk_s rfl (wk_s rfl wk_0)))
        exact ih6 hl6 b6 eN6
      · refine r_iload_n (pc := 24) hG dX9_firstDue_24 rfl ?_
        refine r_aload_n (pc := 25) hG dX9_firstDue_25 rfl ?_
        refine gf_X9_due (pc := 26)  hG dX9_firstDue_26 tw_1178 ?_
        refine r_iload_n (pc := 29) hG dX9_firstDue_29 rfl ?_
        refine al_Mdue (pc := 30)  hG dX9_firstDue_30 (ix_nI (by omega) (Nat.le_of_ble_eq_true rfl)) ?_
        refine r_mmin (pc := 31) hG dX9_firstDue_31 tw_1599 (by decide) (Nat.le_of_ble_eq_true rfl) ?_
        refine r_istore_n (pc := 34) (ls' := [_, _, _]) hG dX9_firstDue_34 rfl rfl ?_
        refine r_iinc (pc := 35) (v := nI (i + 1)) (ls' := [_, _, _]) hG dX9_firstDue_35 rfl (nI_1 _) rfl rfl ?_
        refine r_goto (pc := 38) (tgt := 6) hG dX9_firstDue_38 (by decide) ?_
        have eN6 : imin b6 (M.1 5 13 i) = st_X9_firstDue_6 M i (itN i (st_X9_firstDue_6 M) 1000) := by rw [← hg6]; unfold st_X9_firstDue_6; exact Eq.symm (if_neg c2)
        refine J.wk (ls' := [some (rf K 140), some (.int (imin b6 (M.1 5 13 i))), some (.int (nI (i + 1)))]) ?_ (Eq.refl 3) (wk_s rfl (wk_s rfl (wk_s rfl wk_0)))
        exact ih6 hl6 (imin b6 (M.1 5 13 i)) eN6
  exact (lp6 0 (Nat.zero_le _) _ rfl).wk (Eq.refl 3) (wk_s rfl (wk_s rfl (wk_s rfl wk_0)))

def st_X9_landingIn_15 (M : MT) (a0 : Int32) (i : Nat) (b4 : Int32) (i15 : Nat) (b15 : Int32) : Int32 :=
  if (sp_X9_landing M (nI i) ((nI i15) / 3) (irm (nI i15) 3)) = a0 then
    b15 + 1
  else
    b15
def st_X9_landingIn_4 (M : MT) (a0 : Int32) (i : Nat) (b4 : Int32) : Int32 :=
  itN 30 (st_X9_landingIn_15 M a0 i b4) b4
def sp_X9_landingIn (M : MT) (a0 : Int32) : Int32 :=
  itN (tn (M.1 5 0 0)) (st_X9_landingIn_4 M a0) 0
set_option maxRecDepth 20000 in
theorem c_X9_landingIn {K : KT} {M : MT} {a0 : Int32}  (hwc5 : bd (M.1 5 0 0) 9) : CM K 4 yX9_landingIn cX9_landingIn 5 (some FieldType.int) [rf K 140, .int a0] M (some (.int (sp_X9_landingIn M a0))) M := by
  refine CM.ofI (by decide) [some (rf K 140), some (.int a0), none, none, none] rfl (Nat.le_of_ble_eq_true rfl) (Nat.le_of_ble_eq_true rfl) (fun G hG _ hret => ?_)
  have hwl5 := bd_lt hwc5
  refine r_iconst (pc := 0) hG dX9_landingIn_0 ic_0 ?_
  refine r_istore_n (pc := 1) (ls' := [_, _, _, _, _]) hG dX9_landingIn_1 rfl rfl ?_
  refine r_iconst (pc := 2) hG dX9_landingIn_2 ic_0 ?_
  refine r_istore_n (pc := 3) (ls' := [_, _, _, _, _]) hG dX9_landingIn_3 rfl rfl ?_
  have hb4 : bd (M.1 5 0 0) 9 := hwc5
  have hb4l := bd_lt hb4
  have lp4 : ∀ i, i ≤ (tn (M.1 5 0 0)) → ∀ b4 : Int32, b4 = itN i (st_X9_landingIn_4 M a0) 0 → J G K M 4 [some (rf K 140), some (.int a0), some (.int b4), some (.int (nI i)), none] [] := by
    refine up_ind (tn (M.1 5 0 0)) (fun i hi4 ih4 => ?_)
    intro b4 hg4
    refine r_iload_n (pc := 4) hG dX9_landingIn_4 rfl ?_
    refine r_aload_n (pc := 5) hG dX9_landingIn_5 rfl ?_
    refine gf_X9_windows (pc := 6)  hG dX9_landingIn_6 tw_1169 ?_
    refine r_icmp_ge (pc := 9) (tgt := 54) hG dX9_landingIn_9 (by decide) (fun c1 => ?_) (fun c1 => ?_)
    · have e4 : i = (tn (M.1 5 0 0)) := by have := (bd_le hb4 (by omega)).mp c1; omega
      subst hg4
      subst e4
      refine r_iload_n (pc := 54) hG dX9_landingIn_54 rfl ?_
      exact hret _ _ _ _ dX9_landingIn_55 (Eq.symm (by unfold sp_X9_landingIn; exact rfl)) rfl
    · have hl4 : i < (tn (M.1 5 0 0)) := by have := mt (bd_le hb4 (by omega)).mpr c1; omega
      refine r_iconst (pc := 12) hG dX9_landingIn_12 ic_0 ?_
      refine r_istore (pc := 13) (ls' := [_, _, _, _, _]) hG dX9_landingIn_13 rfl rfl ?_
      have lp15 : ∀ i15, i15 ≤ 30 → ∀ b15 : Int32, b15 = itN i15 (st_X9_landingIn_15 M a0 i b4) b4 → J G K M 15 [some (rf K 140), some (.int a0), some (.int b15), some (.int (nI i)), some (.int (nI i15))] [] := by
        refine up_ind 30 (fun i15 hi15 ih15 => ?_)
        intro b15 hg15
        refine r_iload (pc := 15) hG dX9_landingIn_15 rfl ?_
        refine r_bipush (pc := 17) hG dX9_landingIn_17 bc_30 ?_
        refine r_icmp_ge (pc := 19) (tgt := 48) hG dX9_landingIn_19 (by decide) (fun c2 => ?_) (fun c2 => ?_)
        · have e15 : i15 = 30 := by have := (le_nI (k := 30) (i := i15) (Nat.le_of_ble_eq_true rfl) (by omega)).mp c2; omega
          subst hg15
          subst e15
          refine r_iinc (pc := 48) (v := nI (i + 1)) (ls' := [_, _, _, _, _]) hG dX9_landingIn_48 rfl (nI_1 _) rfl rfl ?_
          refine r_goto (pc := 51) (tgt := 4) hG dX9_landingIn_51 (by decide) ?_
          have eN4 : itN 30 (st_X9_landingIn_15 M a0 i b4) b4 = st_X9_landingIn_4 M a0 i (itN i (st_X9_landingIn_4 M a0) 0) := by rw [← hg4]; unfold st_X9_landingIn_4; exact Eq.symm rfl
          refine J.wk (ls' := [some (rf K 140), some (.int a0), some (.int (itN 30 (st_X9_landingIn_15 M a0 i b4) b4)), some (.int (nI (i + 1))), none]) ?_ (Eq.refl 5) (wk_s rfl (wk_s rfl (wk_s rfl (wk_s rfl (wk_n wk_0)))))
          exact ih4 hl4 (itN 30 (st_X9_landingIn_15 M a0 i b4) b4) eN4
        · have hl15 : i15 < 30 := by have := mt (le_nI (k := 30) (i := i15) (Nat.le_of_ble_eq_true rfl) (by omega)).mpr c2; omega
          refine r_aload_n (pc := 22) hG dX9_landingIn_22 rfl ?_
          refine r_iload_n (pc := 23) hG dX9_landingIn_23 rfl ?_
          refine r_iload (pc := 24) hG dX9_landingIn_24 rfl ?_
          refine r_iconst (pc := 26) hG dX9_landingIn_26 ic_3 ?_
          refine r_idiv (pc := 27) hG dX9_landingIn_27 (by decide) ?_
          refine r_iload (pc := 28) hG dX9_landingIn_28 rfl ?_
          refine r_iconst (pc := 30) hG dX9_landingIn_30 ic_3 ?_
          refine r_irem (pc := 31) hG dX9_landingIn_31 (by decide) ?_
          refine cv_X9_landing (pc := 32)  hG dX9_landingIn_32 tw_1442 (c_X9_landing (bd_nI (by omega) (Nat.le_of_ble_eq_true rfl))) (by decide) (Nat.le_of_ble_eq_true rfl) ?_
          refine r_iload_n (pc := 35) hG dX9_landingIn_35 rfl ?_
          refine r_icmp_ne (pc := 36) (tgt := 42) hG dX9_landingIn_36 (by decide) (fun c3 => ?_) (fun c3 => ?_)
          · refine r_iinc (pc := 42) (v := nI (i15 + 1)) (ls' := [_, _, _, _, _]) hG dX9_landingIn_42 rfl (nI_1 _) rfl rfl ?_
            refine r_goto (pc := 45) (tgt := 15) hG dX9_landingIn_45 (by decide) ?_
            have eN15 : b15 = st_X9_landingIn_15 M a0 i b4 i15 (itN i15 (st_X9_landingIn_15 M a0 i b4) b4) := by rw [← hg15]; unfold st_X9_landingIn_15; exact Eq.symm (if_neg c3)
            refine J.wk (ls' := [some (rf K 140), some (.int a0), some (.int b15), some (.int (nI i)), some (.int (nI (i15 + 1)))]) ?_ (Eq.refl 5) (wk_s rfl (wk_s rfl (wk_s rfl (wk_s rfl (wk_s rfl wk_0)))))
            exact ih15 hl15 b15 eN15
          · refine r_iinc (pc := 39) (v := b15 + 1) (ls' := [_, _, _, _, _]) hG dX9_landingIn_39 rfl rfl rfl rfl ?_
            refine r_iinc (pc := 42) (v := nI (i15 + 1)) (ls' := [_, _, _, _, _]) hG dX9_landingIn_42 rfl (nI_1 _) rfl rfl ?_
            refine r_goto (pc := 45) (tgt := 15) hG dX9_landingIn_45 (by decide) ?_
            have eN15 : b15 + 1 = st_X9_landingIn_15 M a0 i b4 i15 (itN i15 (st_X9_landingIn_15 M a0 i b4) b4) := by rw [← hg15]; unfold st_X9_landingIn_15; exact Eq.symm (if_pos c3)
            refine J.wk (ls' := [some (rf K 140), some (.int a0), some (.int (b15 + 1)), some (.int (nI i)), some (.int (nI (i15 + 1)))]) ?_ (Eq.refl 5) (wk_s rfl (wk_s rfl (wk_s rfl (wk_s rfl (wk_s rfl wk_0)))))
            exact ih15 hl15 (b15 + 1) eN15
      exact (lp15 0 (Nat.zero_le _) _ rfl).wk (Eq.refl 5) (wk_s rfl (wk_s rfl (wk_s rfl (wk_s rfl (wk_s rfl wk_0)))))
  exact (lp4 0 (Nat.zero_le _) _ rfl).wk (Eq.refl 5) (wk_s rfl (wk_s rfl (wk_s rfl (wk_s rfl (wk_n wk_0)))))

def sp_X9_newWindow (M : MT) (a0 : Int32) (a1 : Int32) (a2 : Int32) : Int32 × MT :=
  (M.1 5 0 0, u1 (u1 (u1 (u1 M 5 6 (tn (M.1 5 0 0)) a0) 5 7 (tn (M.1 5 0 0)) a1) 5 8 (tn (M.1 5 0 0)) a2) 5 0 0 ((M.1 5 0 0) + 1))
set_option maxRecDepth 20000 in
theorem c_X9_newWindow {K : KT} {M : MT} {a0 : Int32} {a1 : Int32} {a2 : Int32}  (hx : bd (M.1 5 0 0) 8) : CM K 1 yX9_newWindow cX9_newWindow 4 (some FieldType.int) [rf K 140, .int a0, .int a1, .int a2] M (some (.int (sp_X9_newWindow M a0 a1 a2).1)) (sp_X9_newWindow M a0 a1 a2).2 := by
  refine CM.ofI (by decide) [some (rf K 140), some (.int a0), some (.int a1), some (.int a2)] rfl (Nat.le_of_ble_eq_true rfl) (Nat.le_of_ble_eq_true rfl) (fun G hG _ hret => ?_)
  refine r_aload_n (pc := 0) hG dX9_newWindow_0 rfl ?_
  refine gf_X9_at (pc := 1)  hG dX9_newWindow_1 tw_1170 ?_
  refine r_aload_n (pc := 4) hG dX9_newWindow_4 rfl ?_
  refine gf_X9_windows (pc := 5)  hG dX9_newWindow_5 tw_1169 ?_
  refine r_iload_n (pc := 8) hG dX9_newWindow_8 rfl ?_
  refine as_Mat (pc := 9)  hG dX9_newWindow_9 (ix_bd hx) ?_
  refine r_aload_n (pc := 10) hG dX9_newWindow_10 rfl ?_
  refine gf_X9_floor (pc := 11)  hG dX9_newWindow_11 tw_1171 ?_
  refine r_aload_n (pc := 14) hG dX9_newWindow_14 rfl ?_
  refine gf_X9_windows (pc := 15)  hG dX9_newWindow_15 tw_1169 ?_
  refine r_iload_n (pc := 18) hG dX9_newWindow_18 rfl ?_
  refine as_Mfloor (pc := 19)  hG dX9_newWindow_19 (ix_bd hx) ?_
  refine r_aload_n (pc := 20) hG dX9_newWindow_20 rfl ?_
  refine gf_X9_thorns (pc := 21)  hG dX9_newWindow_21 tw_1172 ?_
  refine r_aload_n (pc := 24) hG dX9_newWindow_24 rfl ?_
  refine gf_X9_windows (pc := 25)  hG dX9_newWindow_25 tw_1169 ?_
  refine r_iload_n (pc := 28) hG dX9_newWindow_28 rfl ?_
  refine as_Mthorns (pc := 29)  hG dX9_newWindow_29 (ix_bd hx) ?_
  refine r_aload_n (pc := 30) hG dX9_newWindow_30 rfl ?_
  refine r_dup (pc := 31) hG dX9_newWindow_31 rfl ?_
  refine gf_X9_windows (pc := 32)  hG dX9_newWindow_32 tw_1169 ?_
  refine r_dup_x1 (pc := 35) hG dX9_newWindow_35 rfl rfl ?_
  refine r_iconst (pc := 36) hG dX9_newWindow_36 ic_1 ?_
  refine r_iadd (pc := 37) hG dX9_newWindow_37 ?_
  refine pf_X9_windows (pc := 38)  hG dX9_newWindow_38 tw_1169 ?_
  exact hret _ _ _ _ dX9_newWindow_41 (pair_fst (show sp_X9_newWindow M a0 a1 a2 = (M.1 5 0 0, u1 (u1 (u1 (u1 M 5 6 (tn (M.1 5 0 0)) a0) 5 7 (tn (M.1 5 0 0)) a1) 5 8 (tn (M.1 5 0 0)) a2) 5 0 0 ((M.1 5 0 0) + 1)) from (by unfold sp_X9_newWindow; exact rfl))) (pair_snd (show sp_X9_newWindow M a0 a1 a2 = (M.1 5 0 0, u1 (u1 (u1 (u1 M 5 6 (tn (M.1 5 0 0)) a0) 5 7 (tn (M.1 5 0 0)) a1) 5 8 (tn (M.1 5 0 0)) a2) 5 0 0 ((M.1 5 0 0) + 1)) from (by unfold sp_X9_newWindow; exact rfl)))

def sp_X9_newOne (M : MT) (a0 : Int32) (a1 : Int32) (a2 : Int32) : Int32 × MT :=
  (M.1 5 1 0, u1 (u1 (u1 (u1 (u1 (u1 M 5 9 (tn (M.1 5 1 0)) a0) 5 10 (tn (M.1 5 1 0)) a1) 5 11 (tn (M.1 5 1 0)) a2) 5 12 (tn (M.1 5 1 0)) (-1)) 5 13 (tn (M.1 5 1 0)) (-1)) 5 1 0 ((M.1 5 1 0) + 1))
set_option maxRecDepth 20000 in
theorem c_X9_newOne {K : KT} {M : MT} {a0 : Int32} {a1 : Int32} {a2 : Int32}  (hx : bd (M.1 5 1 0) 8) : CM K 1 yX9_newOne cX9_newOne 4 (some FieldType.int) [rf K 140, .int a0, .int a1, .int a2] M (some (.int (sp_X9_newOne M a0 a1 a2).1)) (sp_X9_newOne M a0 a1 a2).2 := by
  refine CM.ofI (by decide) [some (rf K 140), some (.int a0), some (.int a1), some (.int a2)] rfl (Nat.le_of_ble_eq_true rfl) (Nat.le_of_ble_eq_true rfl) (fun G hG _ hret => ?_)
  refine r_aload_n (pc := 0) hG dX9_newOne_0 rfl ?_
  refine gf_X9_kind (pc := 1)  hG dX9_newOne_1 tw_1174 ?_
  refine r_aload_n (pc := 4) hG dX9_newOne_4 rfl ?_
  refine gf_X9_people (pc := 5)  hG dX9_newOne_5 tw_1173 ?_
  refine r_iload_n (pc := 8) hG dX9_newOne_8 rfl ?_
  refine as_Mkind (pc := 9)  hG dX9_newOne_9 (ix_bd hx) ?_
  refine r_aload_n (pc := 10) hG dX9_newOne_10 rfl ?_
  refine gf_X9_own (pc := 11)  hG dX9_newOne_11 tw_1175 ?_
  refine r_aload_n (pc := 14) hG dX9_newOne_14 rfl ?_
  refine gf_X9_people (pc := 15)  hG dX9_newOne_15 tw_1173 ?_
  refine r_iload_n (pc := 18) hG dX9_newOne_18 rfl ?_
  refine as_Mown (pc := 19)  hG dX9_newOne_19 (ix_bd hx) ?_
  refine r_aload_n (pc := 20) hG dX9_newOne_20 rfl ?_
  refine gf_X9_place (pc := 21)  hG dX9_newOne_21 tw_1176 ?_
  refine r_aload_n (pc := 24) hG dX9_newOne_24 rfl ?_
  refine gf_X9_people (pc := 25)  hG dX9_newOne_25 tw_1173 ?_
  refine r_iload_n (pc := 28) hG dX9_newOne_28 rfl ?_
  refine as_Mplace (pc := 29)  hG dX9_newOne_29 (ix_bd hx) ?_
  refine r_aload_n (pc := 30) hG dX9_newOne_30 rfl ?_
  refine gf_X9_rose (pc := 31)  hG dX9_newOne_31 tw_1177 ?_
  refine r_aload_n (pc := 34) hG dX9_newOne_34 rfl ?_
  refine gf_X9_people (pc := 35)  hG dX9_newOne_35 tw_1173 ?_
  refine r_iconst (pc := 38) hG dX9_newOne_38 ic_m1 ?_
  refine as_Mrose (pc := 39)  hG dX9_newOne_39 (ix_bd hx) ?_
  refine r_aload_n (pc := 40) hG dX9_newOne_40 rfl ?_
  refine gf_X9_due (pc := 41)  hG dX9_newOne_41 tw_1178 ?_
  refine r_aload_n (pc := 44) hG dX9_newOne_44 rfl ?_
  refine gf_X9_people (pc := 45)  hG dX9_newOne_45 tw_1173 ?_
  refine r_iconst (pc := 48) hG dX9_newOne_48 ic_m1 ?_
  refine as_Mdue (pc := 49)  hG dX9_newOne_49 (ix_bd hx) ?_
  refine r_aload_n (pc := 50) hG dX9_newOne_50 rfl ?_
  refine r_dup (pc := 51) hG dX9_newOne_51 rfl ?_
  refine gf_X9_people (pc := 52)  hG dX9_newOne_52 tw_1173 ?_
  refine r_dup_x1 (pc := 55) hG dX9_newOne_55 rfl rfl ?_
  refine r_iconst (pc := 56) hG dX9_newOne_56 ic_1 ?_
  refine r_iadd (pc := 57) hG dX9_newOne_57 ?_
  refine pf_X9_people (pc := 58)  hG dX9_newOne_58 tw_1173 ?_
  exact hret _ _ _ _ dX9_newOne_61 (pair_fst (show sp_X9_newOne M a0 a1 a2 = (M.1 5 1 0, u1 (u1 (u1 (u1 (u1 (u1 M 5 9 (tn (M.1 5 1 0)) a0) 5 10 (tn (M.1 5 1 0)) a1) 5 11 (tn (M.1 5 1 0)) a2) 5 12 (tn (M.1 5 1 0)) (-1)) 5 13 (tn (M.1 5 1 0)) (-1)) 5 1 0 ((M.1 5 1 0) + 1)) from (by unfold sp_X9_newOne; exact rfl))) (pair_snd (show sp_X9_newOne M a0 a1 a2 = (M.1 5 1 0, u1 (u1 (u1 (u1 (u1 (u1 M 5 9 (tn (M.1 5 1 0)) a0) 5 10 (tn (M.1 5 1 0)) a1) 5 11 (tn (M.1 5 1 0)) a2) 5 12 (tn (M.1 5 1 0)) (-1)) 5 13 (tn (M.1 5 1 0)) (-1)) 5 1 0 ((M.1 5 1 0) + 1)) from (by unfold sp_X9_newOne; exact rfl)))

def sp_X9_isThrowTold (M : MT) (a0 : Int64) : Bool :=
  if a0 < 0 then
    false
  else
    if (100 * (Int32.toInt64 (M.1 5 0 0))) ≤ a0 then
      false
    else
      if 3 ≤ (lrm a0 10) then
        false
      else
        true
set_option maxRecDepth 20000 in
theorem c_X9_isThrowTold {K : KT} {M : MT} {a0 : Int64}   : CM K 1 yX9_isThrowTold cX9_isThrowTold 3 (some FieldType.boolean) [rf K 140, .long a0] M (some (.int (bz (sp_X9_isThrowTold M a0)))) M := by
  refine CM.ofZ (by decide) [some (rf K 140), some (.long a0), none] rfl (Nat.le_of_ble_eq_true rfl) (Nat.le_of_ble_eq_true rfl) (fun G hG _ hret => ?_)
  refine r_lload_n (pc := 0) hG dX9_isThrowTold_0 rfl ?_
  refine r_lconst (pc := 1) (v := 0) hG dX9_isThrowTold_1 (by decide) ?_
  refine r_lcmp (pc := 2) hG dX9_isThrowTold_2 ?_
  refine r_lc_lt (pc := 3) (tgt := 36) hG dX9_isThrowTold_3 (by decide) (fun c1 => ?_) (fun c1 => ?_)
  · refine r_iconst (pc := 36) hG dX9_isThrowTold_36 ic_0 ?_
    exact hret _ _ _ _ dX9_isThrowTold_37 (bz_f (by unfold sp_X9_isThrowTold; exact (if_pos c1))) rfl
  · refine r_lload_n (pc := 6) hG dX9_isThrowTold_6 rfl ?_
    refine r_ldc2 (pc := 7) hG dX9_isThrowTold_7 tw_1543 ?_
    refine r_aload_n (pc := 10) hG dX9_isThrowTold_10 rfl ?_
    refine gf_X9_windows (pc := 11)  hG dX9_isThrowTold_11 tw_1169 ?_
    refine r_i2l (pc := 14) hG dX9_isThrowTold_14 ?_
    refine r_lmul (pc := 15) hG dX9_isThrowTold_15 ?_
    refine r_lcmp (pc := 16) hG dX9_isThrowTold_16 ?_
    refine r_lc_ge (pc := 17) (tgt := 36) hG dX9_isThrowTold_17 (by decide) (fun c2 => ?_) (fun c2 => ?_)
    · refine r_iconst (pc := 36) hG dX9_isThrowTold_36 ic_0 ?_
      exact hret _ _ _ _ dX9_isThrowTold_37 (bz_f (by unfold sp_X9_isThrowTold; exact ((if_neg c1).trans (if_pos c2)))) rfl
    · refine r_lload_n (pc := 20) hG dX9_isThrowTold_20 rfl ?_
      refine r_ldc2 (pc := 21) hG dX9_isThrowTold_21 tw_1544 ?_
      refine r_lrem (pc := 24) hG dX9_isThrowTold_24 (by decide) ?_
      refine r_ldc2 (pc := 25) hG dX9_isThrowTold_25 tw_1545 ?_
      refine r_lcmp (pc := 28) hG dX9_isThrowTold_28 ?_
      refine r_lc_ge (pc := 29) (tgt := 36) hG dX9_isThrowTold_29 (by decide) (fun c3 => ?_) (fun c3 => ?_)
      · refine r_iconst (pc := 36) hG dX9_isThrowTold_36 ic_0 ?_
        exact hret _ _ _ _ dX9_isThrowTold_37 (bz_f (by unfold sp_X9_isThrowTold; exact ((if_neg c1).trans ((if_neg c2).trans (if_pos c3))))) rfl
      · refine r_iconst (pc := 32) hG dX9_isThrowTold_32 ic_1 ?_
        refine r_goto (pc := 33) (tgt := 37) hG dX9_isThrowTold_33 (by decide) ?_
        exact hret _ _ _ _ dX9_isThrowTold_37 (bz_t (by unfold sp_X9_isThrowTold; exact ((if_neg c1).trans ((if_neg c2).trans (if_neg c3))))) rfl

def sp_X9_landingTold (M : MT) (a0 : Int64) : Int32 :=
  sp_X9_landing M ((Int64.toInt32 a0) / 100) (irm ((Int64.toInt32 a0) / 10) 10) (irm (Int64.toInt32 a0) 10)
set_option maxRecDepth 20000 in
theorem c_X9_landingTold {K : KT} {M : MT} {a0 : Int64}  (ht : bd ((Int64.toInt32 a0) / 100) 8) : CM K 4 yX9_landingTold cX9_landingTold 3 (some FieldType.int) [rf K 140, .long a0] M (some (.int (sp_X9_landingTold M a0))) M := by
  refine CM.ofI (by decide) [some (rf K 140), some (.long a0), none] rfl (Nat.le_of_ble_eq_true rfl) (Nat.le_of_ble_eq_true rfl) (fun G hG _ hret => ?_)
  refine r_aload_n (pc := 0) hG dX9_landingTold_0 rfl ?_
  refine r_lload_n (pc := 1) hG dX9_landingTold_1 rfl ?_
  refine r_l2i (pc := 2) hG dX9_landingTold_2 ?_
  refine r_bipush (pc := 3) hG dX9_landingTold_3 bc_100 ?_
  refine r_idiv (pc := 5) hG dX9_landingTold_5 (by decide) ?_
  refine r_lload_n (pc := 6) hG dX9_landingTold_6 rfl ?_
  refine r_l2i (pc := 7) hG dX9_landingTold_7 ?_
  refine r_bipush (pc := 8) hG dX9_landingTold_8 bc_10 ?_
  refine r_idiv (pc := 10) hG dX9_landingTold_10 (by decide) ?_
  refine r_bipush (pc := 11) hG dX9_landingTold_11 bc_10 ?_
  refine r_irem (pc := 13) hG dX9_landingTold_13 (by decide) ?_
  refine r_lload_n (pc := 14) hG dX9_landingTold_14 rfl ?_
  refine r_l2i (pc := 15) hG dX9_landingTold_15 ?_
  refine r_bipush (pc := 16) hG dX9_landingTold_16 bc_10 ?_
  refine r_irem (pc := 18) hG dX9_landingTold_18 (by decide) ?_
  refine cv_X9_landing (pc := 19)  hG dX9_landingTold_19 tw_1442 (c_X9_landing ht) (by decide) (Nat.le_of_ble_eq_true rfl) ?_
  exact hret _ _ _ _ dX9_landingTold_22 (Eq.symm (by unfold sp_X9_landingTold; exact rfl)) rfl

def sp_X9_toldAt (M : MT) (a0 : Int32) (a1 : Int32) : Int64 :=
  M.2.2 8 (tn ((40 * a0) + a1))
set_option maxRecDepth 20000 in
theorem c_X9_toldAt {K : KT} {M : MT} {a0 : Int32} {a1 : Int32}  (ht : bd ((40 * a0) + a1) 320) : CM K 1 yX9_toldAt cX9_toldAt 3 (some FieldType.long) [rf K 140, .int a0, .int a1] M (some (.long (sp_X9_toldAt M a0 a1))) M := by
  refine CM.ofL (by decide) [some (rf K 140), some (.int a0), some (.int a1)] rfl (Nat.le_of_ble_eq_true rfl) (Nat.le_of_ble_eq_true rfl) (fun G hG _ hret => ?_)
  refine r_aload_n (pc := 0) hG dX9_toldAt_0 rfl ?_
  refine gf_X9_rowOf (pc := 1)  hG dX9_toldAt_1 tw_1188 ?_
  refine r_bipush (pc := 4) hG dX9_toldAt_4 bc_40 ?_
  refine r_iload_n (pc := 6) hG dX9_toldAt_6 rfl ?_
  refine r_imul (pc := 7) hG dX9_toldAt_7 ?_
  refine r_iload_n (pc := 8) hG dX9_toldAt_8 rfl ?_
  refine r_iadd (pc := 9) hG dX9_toldAt_9 ?_
  refine al_MrowOf (pc := 10)  hG dX9_toldAt_10 (ix_bd ht) ?_
  exact hret _ _ _ _ dX9_toldAt_11 (Eq.symm (by unfold sp_X9_toldAt; exact rfl)) rfl

def sp_X9_noTold (M : MT) (a0 : Int32) (a1 : Int32) : Int32 :=
  if (sp_X9_isRow M a0) = true then
    if a1 ≤ (M.2.1 33 (tn a0)) then
      0
    else
      (-2)
  else
    sp_X9_noRow M a0
set_option maxRecDepth 20000 in
theorem c_X9_noTold {K : KT} {M : MT} {a0 : Int32} {a1 : Int32}  (ha0b : bd (a0) 8) : CM K 3 yX9_noTold cX9_noTold 3 (some FieldType.int) [rf K 140, .int a0, .int a1] M (some (.int (sp_X9_noTold M a0 a1))) M := by
  refine CM.ofI (by decide) [some (rf K 140), some (.int a0), some (.int a1)] rfl (Nat.le_of_ble_eq_true rfl) (Nat.le_of_ble_eq_true rfl) (fun G hG _ hret => ?_)
  refine r_aload_n (pc := 0) hG dX9_noTold_0 rfl ?_
  refine r_iload_n (pc := 1) hG dX9_noTold_1 rfl ?_
  refine cv_X9_isRow (pc := 2)  hG dX9_noTold_2 tw_1281 (c_X9_isRow ha0b) (by decide) (Nat.le_of_ble_eq_true rfl) ?_
  refine r_ifz_ne (pc := 5) (tgt := 16) hG dX9_noTold_5 (by decide) (fun c1 => ?_) (fun c1 => ?_)
  · refine r_iload_n (pc := 16) hG dX9_noTold_16 rfl ?_
    refine r_aload_n (pc := 17) hG dX9_noTold_17 rfl ?_
    refine gf_X9_rowLength (pc := 18)  hG dX9_noTold_18 tw_1187 ?_
    refine r_iload_n (pc := 21) hG dX9_noTold_21 rfl ?_
    refine al_MrowLength (pc := 22)  hG dX9_noTold_22 (ix_bd ha0b) ?_
    refine r_icmp_le (pc := 23) (tgt := 31) hG dX9_noTold_23 (by decide) (fun c2 => ?_) (fun c2 => ?_)
    · refine r_iconst (pc := 31) hG dX9_noTold_31 ic_0 ?_
      exact hret _ _ _ _ dX9_noTold_32 (Eq.symm (by unfold sp_X9_noTold; exact ((if_pos c1).trans (if_pos c2)))) rfl
    · refine r_bipush (pc := 26) hG dX9_noTold_26 bc_m2 ?_
      refine r_goto (pc := 28) (tgt := 32) hG dX9_noTold_28 (by decide) ?_
      exact hret _ _ _ _ dX9_noTold_32 (Eq.symm (by unfold sp_X9_noTold; exact ((if_pos c1).trans (if_neg c2)))) rfl
  · refine r_aload_n (pc := 8) hG dX9_noTold_8 rfl ?_
    refine r_iload_n (pc := 9) hG dX9_noTold_9 rfl ?_
    refine cv_X9_noRow (pc := 10)  hG dX9_noTold_10 tw_1285 (c_X9_noRow ha0b) (by decide) (Nat.le_of_ble_eq_true rfl) ?_
    refine r_goto (pc := 13) (tgt := 32) hG dX9_noTold_13 (by decide) ?_
    exact hret _ _ _ _ dX9_noTold_32 (Eq.symm (by unfold sp_X9_noTold; exact (if_neg c1))) rfl
