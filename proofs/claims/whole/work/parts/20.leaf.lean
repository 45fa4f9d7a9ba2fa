/-! what every street keeps to -/
def OKs (M : MT) (s : Nat) : Prop :=
  bd (M.1 s 0 0) 9 ∧ bd (M.1 s 1 0) 9 ∧ (bd (M.1 s 2 0) 31 ∧ 2 ≤ tn (M.1 s 2 0)) ∧ bd (M.1 s 3 0) 11 ∧ bd (M.1 s 3 1) 1000 ∧ bd (M.1 s 3 2) 1000 ∧
  (∀ p, p < 8 → bd (M.1 s 9 p) 6) ∧ (∀ p, p < 8 → bd (M.1 s 11 p) 31) ∧
  (∀ w, w < tn (M.1 s 0 0) → bd (M.1 s 6 w) (tn (M.1 s 2 0)) ∧ bd (M.1 s 7 w) 6 ∧ 1 ≤ tn (M.1 s 7 w) ∧ bd (M.1 s 8 w) 10) ∧
  (∀ p, p < tn (M.1 s 1 0) → bd (M.1 s 10 p) 10 ∧ bd (M.1 s 11 p) (tn (M.1 s 2 0)) ∧ (M.1 s 12 p = -1 ∨ bd (M.1 s 12 p) (tn (M.1 s 0 0))) ∧ (M.1 s 13 p = -1 ∨ bd (M.1 s 13 p) 1000) ∧ (M.1 s 12 p = -1 → M.1 s 13 p = -1))
theorem itN_inv {β : Type} {f : Nat → β → β} {b : β} (P : β → Prop) : ∀ (n : Nat), P b → (∀ i c, i < n → P c → P (f i c)) → P (itN n f b)
  | 0, h, _ => h
  | n + 1, h, hs => hs n _ (Nat.lt_succ_self n) (itN_inv P n h (fun i c hi hc => hs i c (Nat.lt_succ_of_lt hi) hc))
theorem rng_tab : ∀ x, x < 31 → ∀ y, y < 4 → ∀ i, i < 9 → (nI x + nI y < nI x - nI y + nI i ↔ 2 * y < i) := by decide +kernel
theorem rng_lt {a r : Int32} {i : Nat} (ha : bd a 31) (hr : bd r 4) (hi : i < 9) : a + r < a - r + nI i ↔ 2 * tn r < i := by
  have h := rng_tab (tn a) (bd_lt ha) (tn r) (bd_lt hr) i hi
  rw [← bd_eq ha, ← bd_eq hr] at h
  exact h
theorem rk_tab : ∀ j, j < 6 → bd (tRK j) 4 := by
  intro j hj
  have h : ∀ j, j < 6 → (decide (tRK j < 0) == false && Nat.blt (tRK j).toNatClampNeg 4) = true := by decide +kernel
  exact bd_lit (h j hj)
theorem two_bd {i n : Nat} (h : i < n) (hn : n ≤ 1000) : bd (2 * nI i) (2 * n) := by
  have e : (2 : Int32) * nI i = nI (2 * i) := (Int32.ofNat_mul 2 i).symm
  rw [e]
  exact bd_nI (by omega) (by omega)
theorem two_bd1 {i n : Nat} (h : i < n) (hn : n ≤ 1000) : bd (2 * nI i + 1) (2 * n) := by
  have e : (2 : Int32) * nI i = nI (2 * i) := (Int32.ofNat_mul 2 i).symm
  rw [e, nI_1]
  exact bd_nI (by omega) (by omega)
def sp_X8_within (a0 : Int32) (a1 : Int32) (a2 : Int32) : Bool :=
  if a0 < a1 then
    false
  else
    if a2 < a0 then
      false
    else
      true
set_option maxRecDepth 20000 in
theorem c_X8_within {K : KT} {M : MT} {a0 : Int32} {a1 : Int32} {a2 : Int32}   : CM K 1 yX8_within cX8_within 3 (some FieldType.boolean) [.int a0, .int a1, .int a2] M (some (.int (bz (sp_X8_within a0 a1 a2)))) M := by
  refine CM.ofZ (by decide) [some (.int a0), some (.int a1), some (.int a2)] rfl (Nat.le_of_ble_eq_true rfl) (Nat.le_of_ble_eq_true rfl) (fun G hG _ hret => ?_)
  refine r_iload_n (pc := 0) hG dX8_within_0 rfl ?_
  refine r_iload_n (pc := 1) hG dX8_within_1 rfl ?_
  refine r_icmp_lt (pc := 2) (tgt := 14) hG dX8_within_2 (by decide) (fun c1 => ?_) (fun c1 => ?_)
  · refine r_iconst (pc := 14) hG dX8_within_14 ic_0 ?_
    exact hret _ _ _ _ dX8_within_15 (bz_f (by unfold sp_X8_within; exact (if_pos c1))) rfl
  · refine r_iload_n (pc := 5) hG dX8_within_5 rfl ?_
    refine r_iload_n (pc := 6) hG dX8_within_6 rfl ?_
    refine r_icmp_gt (pc := 7) (tgt := 14) hG dX8_within_7 (by decide) (fun c2 => ?_) (fun c2 => ?_)
    · refine r_iconst (pc := 14) hG dX8_within_14 ic_0 ?_
      exact hret _ _ _ _ dX8_within_15 (bz_f (by unfold sp_X8_within; exact ((if_neg c1).trans (if_pos c2)))) rfl
    · refine r_iconst (pc := 10) hG dX8_within_10 ic_1 ?_
      refine r_goto (pc := 11) (tgt := 15) hG dX8_within_11 (by decide) ?_
      exact hret _ _ _ _ dX8_within_15 (bz_t (by unfold sp_X8_within; exact ((if_neg c1).trans (if_neg c2)))) rfl

def sp_X8_slowness (a0 : Int32) (a1 : Int32) (a2 : Int32) : Int32 :=
  if a0 = 1 then
    (2 * a1) + 3
  else
    if a0 = 2 then
      a1 / 2
    else
      if a0 = 3 then
        ((2 * a1) + 3) + a2
      else
        if a0 = 4 then
          0
        else
          if a0 = 5 then
            a1 + 10
          else
            a1
set_option maxRecDepth 20000 in
theorem c_X8_slowness {K : KT} {M : MT} {a0 : Int32} {a1 : Int32} {a2 : Int32}   : CM K 1 yX8_slowness cX8_slowness 3 (some FieldType.int) [.int a0, .int a1, .int a2] M (some (.int (sp_X8_slowness a0 a1 a2))) M := by
  refine CM.ofI (by decide) [some (.int a0), some (.int a1), some (.int a2)] rfl (Nat.le_of_ble_eq_true rfl) (Nat.le_of_ble_eq_true rfl) (fun G hG _ hret => ?_)
  refine r_iload_n (pc := 0) hG dX8_slowness_0 rfl ?_
  by_cases c1 : a0 = 1
  · refine r_tableIn (pc := 1) (tgt := 36) (off := 35) hG dX8_slowness_1 (by rw [c1]; decide) (by rw [c1]; decide) (by rw [c1]; rfl) (by decide) ?_
    refine r_iconst (pc := 36) hG dX8_slowness_36 ic_2 ?_
    refine r_iload_n (pc := 37) hG dX8_slowness_37 rfl ?_
    refine r_imul (pc := 38) hG dX8_slowness_38 ?_
    refine r_iconst (pc := 39) hG dX8_slowness_39 ic_3 ?_
    refine r_iadd (pc := 40) hG dX8_slowness_40 ?_
    exact hret _ _ _ _ dX8_slowness_41 (Eq.symm (by unfold sp_X8_slowness; exact (if_pos c1))) rfl
  · by_cases c2 : a0 = 2
    · refine r_tableIn (pc := 1) (tgt := 50) (off := 49) hG dX8_slowness_1 (by rw [c2]; decide) (by rw [c2]; decide) (by rw [c2]; rfl) (by decide) ?_
      refine r_iload_n (pc := 50) hG dX8_slowness_50 rfl ?_
      refine r_iconst (pc := 51) hG dX8_slowness_51 ic_2 ?_
      refine r_idiv (pc := 52) hG dX8_slowness_52 (by decide) ?_
      exact hret _ _ _ _ dX8_slowness_53 (Eq.symm (by unfold sp_X8_slowness; exact ((if_neg c1).trans (if_pos c2)))) rfl
    · by_cases c3 : a0 = 3
      · refine r_tableIn (pc := 1) (tgt := 42) (off := 41) hG dX8_slowness_1 (by rw [c3]; decide) (by rw [c3]; decide) (by rw [c3]; rfl) (by decide) ?_
        refine r_iconst (pc := 42) hG dX8_slowness_42 ic_2 ?_
        refine r_iload_n (pc := 43) hG dX8_slowness_43 rfl ?_
        refine r_imul (pc := 44) hG dX8_slowness_44 ?_
        refine r_iconst (pc := 45) hG dX8_slowness_45 ic_3 ?_
        refine r_iadd (pc := 46) hG dX8_slowness_46 ?_
        refine r_iload_n (pc := 47) hG dX8_slowness_47 rfl ?_
        refine r_iadd (pc := 48) hG dX8_slowness_48 ?_
        exact hret _ _ _ _ dX8_slowness_49 (Eq.symm (by unfold sp_X8_slowness; exact ((if_neg c1).trans ((if_neg c2).trans (if_pos c3))))) rfl
      · by_cases c4 : a0 = 4
        · refine r_tableIn (pc := 1) (tgt := 54) (off := 53) hG dX8_slowness_1 (by rw [c4]; decide) (by rw [c4]; decide) (by rw [c4]; rfl) (by decide) ?_
          refine r_iconst (pc := 54) hG dX8_slowness_54 ic_0 ?_
          exact hret _ _ _ _ dX8_slowness_55 (Eq.symm (by unfold sp_X8_slowness; exact ((if_neg c1).trans ((if_neg c2).trans ((if_neg c3).trans (if_pos c4)))))) rfl
        · by_cases c5 : a0 = 5
          · refine r_tableIn (pc := 1) (tgt := 56) (off := 55) hG dX8_slowness_1 (by rw [c5]; decide) (by rw [c5]; decide) (by rw [c5]; rfl) (by decide) ?_
            refine r_iload_n (pc := 56) hG dX8_slowness_56 rfl ?_
            refine r_bipush (pc := 57) hG dX8_slowness_57 bc_10 ?_
            refine r_iadd (pc := 59) hG dX8_slowness_59 ?_
            exact hret _ _ _ _ dX8_slowness_60 (Eq.symm (by unfold sp_X8_slowness; exact ((if_neg c1).trans ((if_neg c2).trans ((if_neg c3).trans ((if_neg c4).trans (if_pos c5))))))) rfl
          · have nc1 : Int32.toInt a0 ≠ 1 := fun q => c1 (Int32.toInt_inj.mp q)
            have nc2 : Int32.toInt a0 ≠ 2 := fun q => c2 (Int32.toInt_inj.mp q)
            have nc3 : Int32.toInt a0 ≠ 3 := fun q => c3 (Int32.toInt_inj.mp q)
            have nc4 : Int32.toInt a0 ≠ 4 := fun q => c4 (Int32.toInt_inj.mp q)
            have nc5 : Int32.toInt a0 ≠ 5 := fun q => c5 (Int32.toInt_inj.mp q)
            refine r_tableOut (pc := 1) (tgt := 61) hG dX8_slowness_1 (by omega) (by decide) ?_
            refine r_iload_n (pc := 61) hG dX8_slowness_61 rfl ?_
            exact hret _ _ _ _ dX8_slowness_62 (Eq.symm (by unfold sp_X8_slowness; exact ((if_neg c1).trans ((if_neg c2).trans ((if_neg c3).trans ((if_neg c4).trans (if_neg c5))))))) rfl

def sp_X8_isShelf (a0 : Int32) : Bool :=
  (sp_X8_within a0 0 7)
set_option maxRecDepth 20000 in
theorem c_X8_isShelf {K : KT} {M : MT} {a0 : Int32}   : CM K 2 yX8_isShelf cX8_isShelf 1 (some FieldType.boolean) [.int a0] M (some (.int (bz (sp_X8_isShelf a0)))) M := by
  refine CM.ofZ (by decide) [some (.int a0)] rfl (Nat.le_of_ble_eq_true rfl) (Nat.le_of_ble_eq_true rfl) (fun G hG _ hret => ?_)
  refine r_iload_n (pc := 0) hG dX8_isShelf_0 rfl ?_
  refine r_iconst (pc := 1) hG dX8_isShelf_1 ic_0 ?_
  refine r_bipush (pc := 2) hG dX8_isShelf_2 bc_7 ?_
  refine cs_X8_within (pc := 4)  hG dX8_isShelf_4 tw_387 (c_X8_within) (by decide) (Nat.le_of_ble_eq_true rfl) ?_
  exact hret _ _ _ _ dX8_isShelf_7 (bz_e (by unfold sp_X8_isShelf; exact rfl)) rfl

def sp_X8_isKind (a0 : Int32) : Bool :=
  (sp_X8_within a0 0 5)
set_option maxRecDepth 20000 in
theorem c_X8_isKind {K : KT} {M : MT} {a0 : Int32}   : CM K 2 yX8_isKind cX8_isKind 1 (some FieldType.boolean) [.int a0] M (some (.int (bz (sp_X8_isKind a0)))) M := by
  refine CM.ofZ (by decide) [some (.int a0)] rfl (Nat.le_of_ble_eq_true rfl) (Nat.le_of_ble_eq_true rfl) (fun G hG _ hret => ?_)
  refine r_iload_n (pc := 0) hG dX8_isKind_0 rfl ?_
  refine r_iconst (pc := 1) hG dX8_isKind_1 ic_0 ?_
  refine r_iconst (pc := 2) hG dX8_isKind_2 ic_5 ?_
  refine cs_X8_within (pc := 3)  hG dX8_isKind_3 tw_387 (c_X8_within) (by decide) (Nat.le_of_ble_eq_true rfl) ?_
  exact hret _ _ _ _ dX8_isKind_6 (bz_e (by unfold sp_X8_isKind; exact rfl)) rfl

def sp_X8_isThorns (a0 : Int32) : Bool :=
  (sp_X8_within a0 0 9)
set_option maxRecDepth 20000 in
theorem c_X8_isThorns {K : KT} {M : MT} {a0 : Int32}   : CM K 2 yX8_isThorns cX8_isThorns 1 (some FieldType.boolean) [.int a0] M (some (.int (bz (sp_X8_isThorns a0)))) M := by
  refine CM.ofZ (by decide) [some (.int a0)] rfl (Nat.le_of_ble_eq_true rfl) (Nat.le_of_ble_eq_true rfl) (fun G hG _ hret => ?_)
  refine r_iload_n (pc := 0) hG dX8_isThorns_0 rfl ?_
  refine r_iconst (pc := 1) hG dX8_isThorns_1 ic_0 ?_
  refine r_bipush (pc := 2) hG dX8_isThorns_2 bc_9 ?_
  refine cs_X8_within (pc := 4)  hG dX8_isThorns_4 tw_387 (c_X8_within) (by decide) (Nat.le_of_ble_eq_true rfl) ?_
  exact hret _ _ _ _ dX8_isThorns_7 (bz_e (by unfold sp_X8_isThorns; exact rfl)) rfl

def sp_X8_isWhat (a0 : Int32) (a1 : Int32) : Bool :=
  (sp_X8_within a0 0 a1)
set_option maxRecDepth 20000 in
theorem c_X8_isWhat {K : KT} {M : MT} {a0 : Int32} {a1 : Int32}   : CM K 2 yX8_isWhat cX8_isWhat 2 (some FieldType.boolean) [.int a0, .int a1] M (some (.int (bz (sp_X8_isWhat a0 a1)))) M := by
  refine CM.ofZ (by decide) [some (.int a0), some (.int a1)] rfl (Nat.le_of_ble_eq_true rfl) (Nat.le_of_ble_eq_true rfl) (fun G hG _ hret => ?_)
  refine r_iload_n (pc := 0) hG dX8_isWhat_0 rfl ?_
  refine r_iconst (pc := 1) hG dX8_isWhat_1 ic_0 ?_
  refine r_iload_n (pc := 2) hG dX8_isWhat_2 rfl ?_
  refine cs_X8_within (pc := 3)  hG dX8_isWhat_3 tw_387 (c_X8_within) (by decide) (Nat.le_of_ble_eq_true rfl) ?_
  exact hret _ _ _ _ dX8_isWhat_6 (bz_e (by unfold sp_X8_isWhat; exact rfl)) rfl

def sp_X2_isHorse (M : MT) (s : Nat) (t : Nat) : Bool :=
  if (M.1 s 9 t) = 5 then
    true
  else
    false
set_option maxRecDepth 20000 in
theorem c_X2_isHorse {K : KT} {M : MT} {s : Nat} {t : Nat} (hs : s < 5) (ht : t < 8)  : CM K 1 yX2_isHorse cX2_isHorse 1 (some FieldType.boolean) [rf K (iP s t)] M (some (.int (bz (sp_X2_isHorse M s t)))) M := by
  refine CM.ofZ (by decide) [some (rf K (iP s t))] rfl (Nat.le_of_ble_eq_true rfl) (Nat.le_of_ble_eq_true rfl) (fun G hG _ hret => ?_)
  refine r_aload_n (pc := 0) hG dX2_isHorse_0 rfl ?_
  refine gf_X2_kind (pc := 1) hs ht hG dX2_isHorse_1 tw_134 ?_
  refine r_iconst (pc := 4) hG dX2_isHorse_4 ic_5 ?_
  refine r_icmp_ne (pc := 5) (tgt := 12) hG dX2_isHorse_5 (by decide) (fun c1 => ?_) (fun c1 => ?_)
  · refine r_iconst (pc := 12) hG dX2_isHorse_12 ic_0 ?_
    exact hret _ _ _ _ dX2_isHorse_13 (bz_f (by unfold sp_X2_isHorse; exact (if_neg c1))) rfl
  · refine r_iconst (pc := 8) hG dX2_isHorse_8 ic_1 ?_
    refine r_goto (pc := 9) (tgt := 13) hG dX2_isHorse_9 (by decide) ?_
    exact hret _ _ _ _ dX2_isHorse_13 (bz_t (by unfold sp_X2_isHorse; exact (if_pos c1))) rfl

def sp_X2_reach (M : MT) (s : Nat) (t : Nat) : Int32 :=
  tRK (tn (M.1 s 9 t))
set_option maxRecDepth 20000 in
theorem c_X2_reach {K : KT} {M : MT} {s : Nat} {t : Nat} (hs : s < 5) (ht : t < 8) (hkd : bd (M.1 s 9 t) 6) : CM K 1 yX2_reach cX2_reach 1 (some FieldType.int) [rf K (iP s t)] M (some (.int (sp_X2_reach M s t))) M := by
  refine CM.ofI (by decide) [some (rf K (iP s t))] rfl (Nat.le_of_ble_eq_true rfl) (Nat.le_of_ble_eq_true rfl) (fun G hG _ hret => ?_)
  refine J_getsN (pc := 0) hG dX2_reach_0 k_RK nw_RX2_31 ?_
  refine r_aload_n (pc := 3) hG dX2_reach_3 rfl ?_
  refine gf_X2_kind (pc := 4) hs ht hG dX2_reach_4 tw_134 ?_
  refine J_tald (pc := 7) hG dX2_reach_7 k_RK (ix_bd hkd) ?_
  exact hret _ _ _ _ dX2_reach_8 (Eq.symm (by unfold sp_X2_reach; exact rfl)) rfl

def sp_X2_reaches (M : MT) (s : Nat) (t : Nat) (a0 : Int32) : Bool :=
  if (sp_X2_reach M s t) < (iabs ((M.1 s 11 t) - a0)) then
    false
  else
    true
set_option maxRecDepth 20000 in
theorem c_X2_reaches {K : KT} {M : MT} {s : Nat} {t : Nat} {a0 : Int32} (hs : s < 5) (ht : t < 8) (hkd : bd (M.1 s 9 t) 6) : CM K 2 yX2_reaches cX2_reaches 2 (some FieldType.boolean) [rf K (iP s t), .int a0] M (some (.int (bz (sp_X2_reaches M s t a0)))) M := by
  refine CM.ofZ (by decide) [some (rf K (iP s t)), some (.int a0)] rfl (Nat.le_of_ble_eq_true rfl) (Nat.le_of_ble_eq_true rfl) (fun G hG _ hret => ?_)
  refine r_aload_n (pc := 0) hG dX2_reaches_0 rfl ?_
  refine gf_X2_at (pc := 1) hs ht hG dX2_reaches_1 tw_140 ?_
  refine r_iload_n (pc := 4) hG dX2_reaches_4 rfl ?_
  refine r_isub (pc := 5) hG dX2_reaches_5 ?_
  refine r_mabs (pc := 6) hG dX2_reaches_6 tw_703 (by decide) (Nat.le_of_ble_eq_true rfl) ?_
  refine r_aload_n (pc := 9) hG dX2_reaches_9 rfl ?_
  refine cv_X2_reach (pc := 10) hs ht hG dX2_reaches_10 tw_706 (c_X2_reach hs ht hkd) (by decide) (Nat.le_of_ble_eq_true rfl) ?_
  refine r_icmp_gt (pc := 13) (tgt := 20) hG dX2_reaches_13 (by decide) (fun c1 => ?_) (fun c1 => ?_)
  · refine r_iconst (pc := 20) hG dX2_reaches_20 ic_0 ?_
    exact hret _ _ _ _ dX2_reaches_21 (bz_f (by unfold sp_X2_reaches; exact (if_pos c1))) rfl
  · refine r_iconst (pc := 16) hG dX2_reaches_16 ic_1 ?_
    refine r_goto (pc := 17) (tgt := 21) hG dX2_reaches_17 (by decide) ?_
    exact hret _ _ _ _ dX2_reaches_21 (bz_t (by unfold sp_X2_reaches; exact (if_neg c1))) rfl

def sp_X2_isAheadOf (M : MT) (s : Nat) (t : Nat) (s0 : Nat) (t0 : Nat) (a1 : Int32) : Bool :=
  if (bz (sp_X2_isHorse M s t)) = (bz (sp_X2_isHorse M s0 t0)) then
    if (iabs ((M.1 s0 11 t0) - a1)) ≤ (iabs ((M.1 s 11 t) - a1)) then
      false
    else
      true
  else
    (sp_X2_isHorse M s0 t0)
set_option maxRecDepth 20000 in
theorem c_X2_isAheadOf {K : KT} {M : MT} {s : Nat} {t : Nat} {s0 : Nat} {t0 : Nat} {a1 : Int32} (hs : s < 5) (ht : t < 8) (hs0 : s0 < 5) (ht0 : t0 < 8)  : CM K 2 yX2_isAheadOf cX2_isAheadOf 3 (some FieldType.boolean) [rf K (iP s t), rf K (iP s0 t0), .int a1] M (some (.int (bz (sp_X2_isAheadOf M s t s0 t0 a1)))) M := by
  refine CM.ofZ (by decide) [some (rf K (iP s t)), some (rf K (iP s0 t0)), some (.int a1)] rfl (Nat.le_of_ble_eq_true rfl) (Nat.le_of_ble_eq_true rfl) (fun G hG _ hret => ?_)
  refine r_aload_n (pc := 0) hG dX2_isAheadOf_0 rfl ?_
  refine cv_X2_isHorse (pc := 1) hs ht hG dX2_isAheadOf_1 tw_711 (c_X2_isHorse hs ht) (by decide) (Nat.le_of_ble_eq_true rfl) ?_
  refine r_aload_n (pc := 4) hG dX2_isAheadOf_4 rfl ?_
  refine cv_X2_isHorse (pc := 5) hs0 ht0 hG dX2_isAheadOf_5 tw_711 (c_X2_isHorse hs0 ht0) (by decide) (Nat.le_of_ble_eq_true rfl) ?_
  refine r_icmp_eq (pc := 8) (tgt := 16) hG dX2_isAheadOf_8 (by decide) (fun c1 => ?_) (fun c1 => ?_)
  · refine r_aload_n (pc := 16) hG dX2_isAheadOf_16 rfl ?_
    refine gf_X2_at (pc := 17) hs ht hG dX2_isAheadOf_17 tw_140 ?_
    refine r_iload_n (pc := 20) hG dX2_isAheadOf_20 rfl ?_
    refine r_isub (pc := 21) hG dX2_isAheadOf_21 ?_
    refine r_mabs (pc := 22) hG dX2_isAheadOf_22 tw_703 (by decide) (Nat.le_of_ble_eq_true rfl) ?_
    refine r_aload_n (pc := 25) hG dX2_isAheadOf_25 rfl ?_
    refine gf_X2_at (pc := 26) hs0 ht0 hG dX2_isAheadOf_26 tw_140 ?_
    refine r_iload_n (pc := 29) hG dX2_isAheadOf_29 rfl ?_
    refine r_isub (pc := 30) hG dX2_isAheadOf_30 ?_
    refine r_mabs (pc := 31) hG dX2_isAheadOf_31 tw_703 (by decide) (Nat.le_of_ble_eq_true rfl) ?_
    refine r_icmp_ge (pc := 34) (tgt := 41) hG dX2_isAheadOf_34 (by decide) (fun c2 => ?_) (fun c2 => ?_)
    · refine r_iconst (pc := 41) hG dX2_isAheadOf_41 ic_0 ?_
      exact hret _ _ _ _ dX2_isAheadOf_42 (bz_f (by unfold sp_X2_isAheadOf; exact ((if_pos c1).trans (if_pos c2)))) rfl
    · refine r_iconst (pc := 37) hG dX2_isAheadOf_37 ic_1 ?_
      refine r_goto (pc := 38) (tgt := 42) hG dX2_isAheadOf_38 (by decide) ?_
      exact hret _ _ _ _ dX2_isAheadOf_42 (bz_t (by unfold sp_X2_isAheadOf; exact ((if_pos c1).trans (if_neg c2)))) rfl
  · refine r_aload_n (pc := 11) hG dX2_isAheadOf_11 rfl ?_
    refine cv_X2_isHorse (pc := 12) hs0 ht0 hG dX2_isAheadOf_12 tw_711 (c_X2_isHorse hs0 ht0) (by decide) (Nat.le_of_ble_eq_true rfl) ?_
    exact hret _ _ _ _ dX2_isAheadOf_15 (bz_e (by unfold sp_X2_isAheadOf; exact (if_neg c1))) rfl

def sp_X2_isOf (M : MT) (s : Nat) (t : Nat) (a0 : Int32) : Bool :=
  if a0 = 0 then
    true
  else
    if a0 = (M.1 s 9 t) then
      true
    else
      if a0 = (tKA (tn (M.1 s 9 t))) then
        true
      else
        false
set_option maxRecDepth 20000 in
theorem c_X2_isOf {K : KT} {M : MT} {s : Nat} {t : Nat} {a0 : Int32} (hs : s < 5) (ht : t < 8) (hkd : bd (M.1 s 9 t) 6) : CM K 1 yX2_isOf cX2_isOf 2 (some FieldType.boolean) [rf K (iP s t), .int a0] M (some (.int (bz (sp_X2_isOf M s t a0)))) M := by
  refine CM.ofZ (by decide) [some (rf K (iP s t)), some (.int a0)] rfl (Nat.le_of_ble_eq_true rfl) (Nat.le_of_ble_eq_true rfl) (fun G hG _ hret => ?_)
  refine r_iload_n (pc := 0) hG dX2_isOf_0 rfl ?_
  refine r_if_eq (pc := 1) (tgt := 24) hG dX2_isOf_1 (by decide) (fun c1 => ?_) (fun c1 => ?_)
  · refine r_iconst (pc := 24) hG dX2_isOf_24 ic_1 ?_
    refine r_goto (pc := 25) (tgt := 29) hG dX2_isOf_25 (by decide) ?_
    exact hret _ _ _ _ dX2_isOf_29 (bz_t (by unfold sp_X2_isOf; exact (if_pos c1))) rfl
  · refine r_iload_n (pc := 4) hG dX2_isOf_4 rfl ?_
    refine r_aload_n (pc := 5) hG dX2_isOf_5 rfl ?_
    refine gf_X2_kind (pc := 6) hs ht hG dX2_isOf_6 tw_134 ?_
    refine r_icmp_eq (pc := 9) (tgt := 24) hG dX2_isOf_9 (by decide) (fun c2 => ?_) (fun c2 => ?_)
    · refine r_iconst (pc := 24) hG dX2_isOf_24 ic_1 ?_
      refine r_goto (pc := 25) (tgt := 29) hG dX2_isOf_25 (by decide) ?_
      exact hret _ _ _ _ dX2_isOf_29 (bz_t (by unfold sp_X2_isOf; exact ((if_neg c1).trans (if_pos c2)))) rfl
    · refine r_iload_n (pc := 12) hG dX2_isOf_12 rfl ?_
      refine J_getsN (pc := 13) hG dX2_isOf_13 k_KA nw_RX2_27 ?_
      refine r_aload_n (pc := 16) hG dX2_isOf_16 rfl ?_
      refine gf_X2_kind (pc := 17) hs ht hG dX2_isOf_17 tw_134 ?_
      refine J_tald (pc := 20) hG dX2_isOf_20 k_KA (ix_bd hkd) ?_
      refine r_icmp_ne (pc := 21) (tgt := 28) hG dX2_isOf_21 (by decide) (fun c3 => ?_) (fun c3 => ?_)
      · refine r_iconst (pc := 28) hG dX2_isOf_28 ic_0 ?_
        exact hret _ _ _ _ dX2_isOf_29 (bz_f (by unfold sp_X2_isOf; exact ((if_neg c1).trans ((if_neg c2).trans (if_neg c3))))) rfl
      · refine r_iconst (pc := 24) hG dX2_isOf_24 ic_1 ?_
        refine r_goto (pc := 25) (tgt := 29) hG dX2_isOf_25 (by decide) ?_
        exact hret _ _ _ _ dX2_isOf_29 (bz_t (by unfold sp_X2_isOf; exact ((if_neg c1).trans ((if_neg c2).trans (if_pos c3))))) rfl

def sp_X2_drop (M : MT) (s : Nat) (t : Nat) : MT :=
  (u1 (u1 M s 12 t (-1)) s 13 t (-1))
set_option maxRecDepth 20000 in
theorem c_X2_drop {K : KT} {M : MT} {s : Nat} {t : Nat} (hs : s < 5) (ht : t < 8)  : CM K 1 yX2_drop cX2_drop 1 none [rf K (iP s t)] M none (sp_X2_drop M s t) := by
  refine CM.ofV (by decide) [some (rf K (iP s t))] rfl (Nat.le_of_ble_eq_true rfl) (Nat.le_of_ble_eq_true rfl) (fun G hG _ hret => ?_)
  refine r_aload_n (pc := 0) hG dX2_drop_0 rfl ?_
  refine r_iconst (pc := 1) hG dX2_drop_1 ic_m1 ?_
  refine pf_X2_rose (pc := 2) hs ht hG dX2_drop_2 tw_145 ?_
  refine r_aload_n (pc := 5) hG dX2_drop_5 rfl ?_
  refine r_iconst (pc := 6) hG dX2_drop_6 ic_m1 ?_
  refine pf_X2_due (pc := 7) hs ht hG dX2_drop_7 tw_148 ?_
  exact hret _ _ _ dX2_drop_10 (Eq.symm (by unfold sp_X2_drop; exact rfl))

def sp_X2_copyFrom (M : MT) (s : Nat) (t : Nat) (s0 : Nat) (t0 : Nat) : MT :=
  (u1 (u1 (u1 (u1 (u1 M s 9 t (M.1 s0 9 t0)) s 10 t ((u1 M s 9 t (M.1 s0 9 t0)).1 s0 10 t0)) s 11 t ((u1 (u1 M s 9 t (M.1 s0 9 t0)) s 10 t ((u1 M s 9 t (M.1 s0 9 t0)).1 s0 10 t0)).1 s0 11 t0)) s 12 t ((u1 (u1 (u1 M s 9 t (M.1 s0 9 t0)) s 10 t ((u1 M s 9 t (M.1 s0 9 t0)).1 s0 10 t0)) s 11 t ((u1 (u1 M s 9 t (M.1 s0 9 t0)) s 10 t ((u1 M s 9 t (M.1 s0 9 t0)).1 s0 10 t0)).1 s0 11 t0)).1 s0 12 t0)) s 13 t ((u1 (u1 (u1 (u1 M s 9 t (M.1 s0 9 t0)) s 10 t ((u1 M s 9 t (M.1 s0 9 t0)).1 s0 10 t0)) s 11 t ((u1 (u1 M s 9 t (M.1 s0 9 t0)) s 10 t ((u1 M s 9 t (M.1 s0 9 t0)).1 s0 10 t0)).1 s0 11 t0)) s 12 t ((u1 (u1 (u1 M s 9 t (M.1 s0 9 t0)) s 10 t ((u1 M s 9 t (M.1 s0 9 t0)).1 s0 10 t0)) s 11 t ((u1 (u1 M s 9 t (M.1 s0 9 t0)) s 10 t ((u1 M s 9 t (M.1 s0 9 t0)).1 s0 10 t0)).1 s0 11 t0)).1 s0 12 t0)).1 s0 13 t0))
set_option maxRecDepth 20000 in
theorem c_X2_copyFrom {K : KT} {M : MT} {s : Nat} {t : Nat} {s0 : Nat} {t0 : Nat} (hs : s < 5) (ht : t < 8) (hs0 : s0 < 5) (ht0 : t0 < 8)  : CM K 1 yX2_copyFrom cX2_copyFrom 2 none [rf K (iP s t), rf K (iP s0 t0)] M none (sp_X2_copyFrom M s t s0 t0) := by
  refine CM.ofV (by decide) [some (rf K (iP s t)), some (rf K (iP s0 t0))] rfl (Nat.le_of_ble_eq_true rfl) (Nat.le_of_ble_eq_true rfl) (fun G hG _ hret => ?_)
  refine r_aload_n (pc := 0) hG dX2_copyFrom_0 rfl ?_
  refine r_aload_n (pc := 1) hG dX2_copyFrom_1 rfl ?_
  refine gf_X2_kind (pc := 2) hs0 ht0 hG dX2_copyFrom_2 tw_134 ?_
  refine pf_X2_kind (pc := 5) hs ht hG dX2_copyFrom_5 tw_134 ?_
  refine r_aload_n (pc := 8) hG dX2_copyFrom_8 rfl ?_
  refine r_aload_n (pc := 9) hG dX2_copyFrom_9 rfl ?_
  refine gf_X2_a (pc := 10) hs0 ht0 hG dX2_copyFrom_10 tw_137 ?_
  refine pf_X2_a (pc := 13) hs ht hG dX2_copyFrom_13 tw_137 ?_
  refine r_aload_n (pc := 16) hG dX2_copyFrom_16 rfl ?_
  refine r_aload_n (pc := 17) hG dX2_copyFrom_17 rfl ?_
  refine gf_X2_at (pc := 18) hs0 ht0 hG dX2_copyFrom_18 tw_140 ?_
  refine pf_X2_at (pc := 21) hs ht hG dX2_copyFrom_21 tw_140 ?_
  refine r_aload_n (pc := 24) hG dX2_copyFrom_24 rfl ?_
  refine r_aload_n (pc := 25) hG dX2_copyFrom_25 rfl ?_
  refine gf_X2_rose (pc := 26) hs0 ht0 hG dX2_copyFrom_26 tw_145 ?_
  refine pf_X2_rose (pc := 29) hs ht hG dX2_copyFrom_29 tw_145 ?_
  refine r_aload_n (pc := 32) hG dX2_copyFrom_32 rfl ?_
  refine r_aload_n (pc := 33) hG dX2_copyFrom_33 rfl ?_
  refine gf_X2_due (pc := 34) hs0 ht0 hG dX2_copyFrom_34 tw_148 ?_
  refine pf_X2_due (pc := 37) hs ht hG dX2_copyFrom_37 tw_148 ?_
  exact hret _ _ _ dX2_copyFrom_40 (Eq.symm (by unfold sp_X2_copyFrom; exact rfl))

def sp_X7_copyFrom (M : MT) (s : Nat) (t : Nat) (s0 : Nat) (t0 : Nat) : MT :=
  (u1 (u1 (u1 M s 6 t (M.1 s0 6 t0)) s 7 t ((u1 M s 6 t (M.1 s0 6 t0)).1 s0 7 t0)) s 8 t ((u1 (u1 M s 6 t (M.1 s0 6 t0)) s 7 t ((u1 M s 6 t (M.1 s0 6 t0)).1 s0 7 t0)).1 s0 8 t0))
set_option maxRecDepth 20000 in
theorem c_X7_copyFrom {K : KT} {M : MT} {s : Nat} {t : Nat} {s0 : Nat} {t0 : Nat} (hs : s < 5) (ht : t < 8) (hs0 : s0 < 5) (ht0 : t0 < 8)  : CM K 1 yX7_copyFrom cX7_copyFrom 2 none [rf K (iW s t), rf K (iW s0 t0)] M none (sp_X7_copyFrom M s t s0 t0) := by
  refine CM.ofV (by decide) [some (rf K (iW s t)), some (rf K (iW s0 t0))] rfl (Nat.le_of_ble_eq_true rfl) (Nat.le_of_ble_eq_true rfl) (fun G hG _ hret => ?_)
  refine r_aload_n (pc := 0) hG dX7_copyFrom_0 rfl ?_
  refine r_aload_n (pc := 1) hG dX7_copyFrom_1 rfl ?_
  refine gf_X7_cell (pc := 2) hs0 ht0 hG dX7_copyFrom_2 tw_113 ?_
  refine pf_X7_cell (pc := 5) hs ht hG dX7_copyFrom_5 tw_113 ?_
  refine r_aload_n (pc := 8) hG dX7_copyFrom_8 rfl ?_
  refine r_aload_n (pc := 9) hG dX7_copyFrom_9 rfl ?_
  refine gf_X7_floor (pc := 10) hs0 ht0 hG dX7_copyFrom_10 tw_116 ?_
  refine pf_X7_floor (pc := 13) hs ht hG dX7_copyFrom_13 tw_116 ?_
  refine r_aload_n (pc := 16) hG dX7_copyFrom_16 rfl ?_
  refine r_aload_n (pc := 17) hG dX7_copyFrom_17 rfl ?_
  refine gf_X7_thorns (pc := 18) hs0 ht0 hG dX7_copyFrom_18 tw_119 ?_
  refine pf_X7_thorns (pc := 21) hs ht hG dX7_copyFrom_21 tw_119 ?_
  exact hret _ _ _ dX7_copyFrom_24 (Eq.symm (by unfold sp_X7_copyFrom; exact rfl))

def sp_X3_hasElement (M : MT) (t : Nat) (a0 : Int32) : Bool :=
  (sp_X8_within a0 0 ((M.2.1 12 t) - 1))
set_option maxRecDepth 20000 in
theorem c_X3_hasElement {K : KT} {M : MT} {t : Nat} {a0 : Int32} (ht : t < 8)  : CM K 2 yX3_hasElement cX3_hasElement 2 (some FieldType.boolean) [rf K (iR t), .int a0] M (some (.int (bz (sp_X3_hasElement M t a0)))) M := by
  refine CM.ofZ (by decide) [some (rf K (iR t)), some (.int a0)] rfl (Nat.le_of_ble_eq_true rfl) (Nat.le_of_ble_eq_true rfl) (fun G hG _ hret => ?_)
  refine r_iload_n (pc := 0) hG dX3_hasElement_0 rfl ?_
  refine r_iconst (pc := 1) hG dX3_hasElement_1 ic_0 ?_
  refine r_aload_n (pc := 2) hG dX3_hasElement_2 rfl ?_
  refine gf_X3_size (pc := 3) ht hG dX3_hasElement_3 tw_331 ?_
  refine r_iconst (pc := 6) hG dX3_hasElement_6 ic_1 ?_
  refine r_isub (pc := 7) hG dX3_hasElement_7 ?_
  refine cs_X8_within_n (pc := 8)  hG dX3_hasElement_8 nw_RX3_19 (c_X8_within) (by decide) (Nat.le_of_ble_eq_true rfl) ?_
  exact hret _ _ _ _ dX3_hasElement_11 (bz_e (by unfold sp_X3_hasElement; exact rfl)) rfl

def sp_X3_hasStretch (M : MT) (t : Nat) (a0 : Int32) (a1 : Int32) : Bool :=
  if a0 < 0 then
    false
  else
    if a1 < 0 then
      false
    else
      if (M.2.1 12 t) < a1 then
        false
      else
        if ((M.2.1 12 t) - a1) < a0 then
          false
        else
          true
set_option maxRecDepth 20000 in
theorem c_X3_hasStretch {K : KT} {M : MT} {t : Nat} {a0 : Int32} {a1 : Int32} (ht : t < 8)  : CM K 1 yX3_hasStretch cX3_hasStretch 3 (some FieldType.boolean) [rf K (iR t), .int a0, .int a1] M (some (.int (bz (sp_X3_hasStretch M t a0 a1)))) M := by
  refine CM.ofZ (by decide) [some (rf K (iR t)), some (.int a0), some (.int a1)] rfl (Nat.le_of_ble_eq_true rfl) (Nat.le_of_ble_eq_true rfl) (fun G hG _ hret => ?_)
  refine r_iload_n (pc := 0) hG dX3_hasStretch_0 rfl ?_
  refine r_if_lt (pc := 1) (tgt := 30) hG dX3_hasStretch_1 (by decide) (fun c1 => ?_) (fun c1 => ?_)
  · refine r_iconst (pc := 30) hG dX3_hasStretch_30 ic_0 ?_
    exact hret _ _ _ _ dX3_hasStretch_31 (bz_f (by unfold sp_X3_hasStretch; exact (if_pos c1))) rfl
  · refine r_iload_n (pc := 4) hG dX3_hasStretch_4 rfl ?_
    refine r_if_lt (pc := 5) (tgt := 30) hG dX3_hasStretch_5 (by decide) (fun c2 => ?_) (fun c2 => ?_)
    · refine r_iconst (pc := 30) hG dX3_hasStretch_30 ic_0 ?_
      exact hret _ _ _ _ dX3_hasStretch_31 (bz_f (by unfold sp_X3_hasStretch; exact ((if_neg c1).trans (if_pos c2)))) rfl
    · refine r_iload_n (pc := 8) hG dX3_hasStretch_8 rfl ?_
      refine r_aload_n (pc := 9) hG dX3_hasStretch_9 rfl ?_
      refine gf_X3_size (pc := 10) ht hG dX3_hasStretch_10 tw_331 ?_
      refine r_icmp_gt (pc := 13) (tgt := 30) hG dX3_hasStretch_13 (by decide) (fun c3 => ?_) (fun c3 => ?_)
      · refine r_iconst (pc := 30) hG dX3_hasStretch_30 ic_0 ?_
        exact hret _ _ _ _ dX3_hasStretch_31 (bz_f (by unfold sp_X3_hasStretch; exact ((if_neg c1).trans ((if_neg c2).trans (if_pos c3))))) rfl
      · refine r_iload_n (pc := 16) hG dX3_hasStretch_16 rfl ?_
        refine r_aload_n (pc := 17) hG dX3_hasStretch_17 rfl ?_
        refine gf_X3_size (pc := 18) ht hG dX3_hasStretch_18 tw_331 ?_
        refine r_iload_n (pc := 21) hG dX3_hasStretch_21 rfl ?_
        refine r_isub (pc := 22) hG dX3_hasStretch_22 ?_
        refine r_icmp_gt (pc := 23) (tgt := 30) hG dX3_hasStretch_23 (by decide) (fun c4 => ?_) (fun c4 => ?_)
        · refine r_iconst (pc := 30) hG dX3_hasStretch_30 ic_0 ?_
          exact hret _ _ _ _ dX3_hasStretch_31 (bz_f (by unfold sp_X3_hasStretch; exact ((if_neg c1).trans ((if_neg c2).trans ((if_neg c3).trans (if_pos c4)))))) rfl
        · refine r_iconst (pc := 26) hG dX3_hasStretch_26 ic_1 ?_
          refine r_goto (pc := 27) (tgt := 31) hG dX3_hasStretch_27 (by decide) ?_
          exact hret _ _ _ _ dX3_hasStretch_31 (bz_t (by unfold sp_X3_hasStretch; exact ((if_neg c1).trans ((if_neg c2).trans ((if_neg c3).trans (if_neg c4)))))) rfl

def sp_X3_fitted (M : MT) (t : Nat) (a0 : Int64) : Int64 :=
  if (M.2.1 11 t) = 0 then
    Int32.toInt64 (Int8.toInt32 (Int32.toInt8 (Int64.toInt32 a0)))
  else
    if (M.2.1 11 t) = 1 then
      Int32.toInt64 (Int16.toInt32 (Int32.toInt16 (Int64.toInt32 a0)))
    else
      if (M.2.1 11 t) = 2 then
        Int32.toInt64 (Int64.toInt32 a0)
      else
        if (M.2.1 11 t) = 3 then
          a0
        else
          if (M.2.1 11 t) = 4 then
            if a0 = 0 then
              0
            else
              1
          else
            a0
set_option maxRecDepth 20000 in
theorem c_X3_fitted {K : KT} {M : MT} {t : Nat} {a0 : Int64} (ht : t < 8)  : CM K 1 yX3_fitted cX3_fitted 3 (some FieldType.long) [rf K (iR t), .long a0] M (some (.long (sp_X3_fitted M t a0))) M := by
  refine CM.ofL (by decide) [some (rf K (iR t)), some (.long a0), none] rfl (Nat.le_of_ble_eq_true rfl) (Nat.le_of_ble_eq_true rfl) (fun G hG _ hret => ?_)
  refine r_aload_n (pc := 0) hG dX3_fitted_0 rfl ?_
  refine gf_X3_sort (pc := 1) ht hG dX3_fitted_1 tw_329 ?_
  by_cases c1 : (M.2.1 11 t) = 0
  · refine r_tableIn (pc := 4) (tgt := 40) (off := 36) hG dX3_fitted_4 (by rw [c1]; decide) (by rw [c1]; decide) (by rw [c1]; rfl) (by decide) ?_
    refine r_lload_n (pc := 40) hG dX3_fitted_40 rfl ?_
    refine r_l2i (pc := 41) hG dX3_fitted_41 ?_
    refine r_i2b (pc := 42) hG dX3_fitted_42 ?_
    refine r_i2l (pc := 43) hG dX3_fitted_43 ?_
    exact hret _ _ _ _ dX3_fitted_44 (Eq.symm (by unfold sp_X3_fitted; exact (if_pos c1))) rfl
  · by_cases c2 : (M.2.1 11 t) = 1
    · refine r_tableIn (pc := 4) (tgt := 45) (off := 41) hG dX3_fitted_4 (by rw [c2]; decide) (by rw [c2]; decide) (by rw [c2]; rfl) (by decide) ?_
      refine r_lload_n (pc := 45) hG dX3_fitted_45 rfl ?_
      refine r_l2i (pc := 46) hG dX3_fitted_46 ?_
      refine r_i2s (pc := 47) hG dX3_fitted_47 ?_
      refine r_i2l (pc := 48) hG dX3_fitted_48 ?_
      exact hret _ _ _ _ dX3_fitted_49 (Eq.symm (by unfold sp_X3_fitted; exact ((if_neg c1).trans (if_pos c2)))) rfl
    · by_cases c3 : (M.2.1 11 t) = 2
      · refine r_tableIn (pc := 4) (tgt := 50) (off := 46) hG dX3_fitted_4 (by rw [c3]; decide) (by rw [c3]; decide) (by rw [c3]; rfl) (by decide) ?_
        refine r_lload_n (pc := 50) hG dX3_fitted_50 rfl ?_
        refine r_l2i (pc := 51) hG dX3_fitted_51 ?_
        refine r_i2l (pc := 52) hG dX3_fitted_52 ?_
        exact hret _ _ _ _ dX3_fitted_53 (Eq.symm (by unfold sp_X3_fitted; exact ((if_neg c1).trans ((if_neg c2).trans (if_pos c3))))) rfl
      · by_cases c4 : (M.2.1 11 t) = 3
        · refine r_tableIn (pc := 4) (tgt := 66) (off := 62) hG dX3_fitted_4 (by rw [c4]; decide) (by rw [c4]; decide) (by rw [c4]; rfl) (by decide) ?_
          refine r_lload_n (pc := 66) hG dX3_fitted_66 rfl ?_
          exact hret _ _ _ _ dX3_fitted_67 (Eq.symm (by unfold sp_X3_fitted; exact ((if_neg c1).trans ((if_neg c2).trans ((if_neg c3).trans (if_pos c4)))))) rfl
        · by_cases c5 : (M.2.1 11 t) = 4
          · refine r_tableIn (pc := 4) (tgt := 54) (off := 50) hG dX3_fitted_4 (by rw [c5]; decide) (by rw [c5]; decide) (by rw [c5]; rfl) (by decide) ?_
            refine r_lload_n (pc := 54) hG dX3_fitted_54 rfl ?_
            refine r_lconst (pc := 55) (v := 0) hG dX3_fitted_55 (by decide) ?_
            refine r_lcmp (pc := 56) hG dX3_fitted_56 ?_
            refine r_lc_eq (pc := 57) (tgt := 64) hG dX3_fitted_57 (by decide) (fun c6 => ?_) (fun c6 => ?_)
            · refine r_lconst (pc := 64) (v := 0) hG dX3_fitted_64 (by decide) ?_
              exact hret _ _ _ _ dX3_fitted_65 (Eq.symm (by unfold sp_X3_fitted; exact ((if_neg c1).trans ((if_neg c2).trans ((if_neg c3).trans ((if_neg c4).trans ((if_pos c5).trans (if_pos c6)))))))) rfl
            · refine r_lconst (pc := 60) (v := 1) hG dX3_fitted_60 (by decide) ?_
              refine r_goto (pc := 61) (tgt := 65) hG dX3_fitted_61 (by decide) ?_
              exact hret _ _ _ _ dX3_fitted_65 (Eq.symm (by unfold sp_X3_fitted; exact ((if_neg c1).trans ((if_neg c2).trans ((if_neg c3).trans ((if_neg c4).trans ((if_pos c5).trans (if_neg c6)))))))) rfl
          · have nc1 : Int32.toInt (M.2.1 11 t) ≠ 0 := fun q => c1 (Int32.toInt_inj.mp q)
            have nc2 : Int32.toInt (M.2.1 11 t) ≠ 1 := fun q => c2 (Int32.toInt_inj.mp q)
            have nc3 : Int32.toInt (M.2.1 11 t) ≠ 2 := fun q => c3 (Int32.toInt_inj.mp q)
            have nc4 : Int32.toInt (M.2.1 11 t) ≠ 3 := fun q => c4 (Int32.toInt_inj.mp q)
            have nc5 : Int32.toInt (M.2.1 11 t) ≠ 4 := fun q => c5 (Int32.toInt_inj.mp q)
            refine r_tableOut (pc := 4) (tgt := 66) hG dX3_fitted_4 (by omega) (by decide) ?_
            refine r_lload_n (pc := 66) hG dX3_fitted_66 rfl ?_
            exact hret _ _ _ _ dX3_fitted_67 (Eq.symm (by unfold sp_X3_fitted; exact ((if_neg c1).trans ((if_neg c2).trans ((if_neg c3).trans ((if_neg c4).trans (if_neg c5))))))) rfl

def sp_X4_isEmpty (M : MT) (t : Nat) : Bool :=
  if (M.2.1 9 t) = 0 then
    if (M.2.1 10 t) = (-1) then
      true
    else
      false
  else
    false
set_option maxRecDepth 20000 in
theorem c_X4_isEmpty {K : KT} {M : MT} {t : Nat} (ht : t < 8)  : CM K 1 yX4_isEmpty cX4_isEmpty 1 (some FieldType.boolean) [rf K (iH t)] M (some (.int (bz (sp_X4_isEmpty M t)))) M := by
  refine CM.ofZ (by decide) [some (rf K (iH t))] rfl (Nat.le_of_ble_eq_true rfl) (Nat.le_of_ble_eq_true rfl) (fun G hG _ hret => ?_)
  refine r_aload_n (pc := 0) hG dX4_isEmpty_0 rfl ?_
  refine gf_X4_hasRow (pc := 1) ht hG dX4_isEmpty_1 tw_344 ?_
  refine r_if_ne (pc := 4) (tgt := 19) hG dX4_isEmpty_4 (by decide) (fun c1 => ?_) (fun c1 => ?_)
  · refine r_iconst (pc := 19) hG dX4_isEmpty_19 ic_0 ?_
    exact hret _ _ _ _ dX4_isEmpty_20 (bz_f (by unfold sp_X4_isEmpty; exact (if_neg c1))) rfl
  · refine r_aload_n (pc := 7) hG dX4_isEmpty_7 rfl ?_
    refine gf_X4_person (pc := 8) ht hG dX4_isEmpty_8 tw_346 ?_
    refine r_iconst (pc := 11) hG dX4_isEmpty_11 ic_m1 ?_
    refine r_icmp_ne (pc := 12) (tgt := 19) hG dX4_isEmpty_12 (by decide) (fun c2 => ?_) (fun c2 => ?_)
    · refine r_iconst (pc := 19) hG dX4_isEmpty_19 ic_0 ?_
      exact hret _ _ _ _ dX4_isEmpty_20 (bz_f (by unfold sp_X4_isEmpty; exact ((if_pos c1).trans (if_neg c2)))) rfl
    · refine r_iconst (pc := 15) hG dX4_isEmpty_15 ic_1 ?_
      refine r_goto (pc := 16) (tgt := 20) hG dX4_isEmpty_16 (by decide) ?_
      exact hret _ _ _ _ dX4_isEmpty_20 (bz_t (by unfold sp_X4_isEmpty; exact ((if_pos c1).trans (if_pos c2)))) rfl

def sp_X4_takePerson (M : MT) (t : Nat) (a0 : Int32) : MT :=
  (u2 (u2 M 9 t 0) 10 t a0)
set_option maxRecDepth 20000 in
theorem c_X4_takePerson {K : KT} {M : MT} {t : Nat} {a0 : Int32} (ht : t < 8)  : CM K 1 yX4_takePerson cX4_takePerson 2 none [rf K (iH t), .int a0] M none (sp_X4_takePerson M t a0) := by
  refine CM.ofV (by decide) [some (rf K (iH t)), some (.int a0)] rfl (Nat.le_of_ble_eq_true rfl) (Nat.le_of_ble_eq_true rfl) (fun G hG _ hret => ?_)
  refine r_aload_n (pc := 0) hG dX4_takePerson_0 rfl ?_
  refine r_iconst (pc := 1) hG dX4_takePerson_1 ic_0 ?_
  refine pf_X4_hasRow (pc := 2) (by decide) ht hG dX4_takePerson_2 tw_344 ?_
  refine r_aload_n (pc := 5) hG dX4_takePerson_5 rfl ?_
  refine r_iload_n (pc := 6) hG dX4_takePerson_6 rfl ?_
  refine pf_X4_person (pc := 7) ht hG dX4_takePerson_7 tw_346 ?_
  exact hret _ _ _ dX4_takePerson_10 (Eq.symm (by unfold sp_X4_takePerson; exact rfl))

def sp_X5_hasCell (M : MT) (s : Nat) (a0 : Int32) : Bool :=
  (sp_X8_within a0 0 ((M.1 s 2 0) - 1))
set_option maxRecDepth 20000 in
theorem c_X5_hasCell {K : KT} {M : MT} {s : Nat} {a0 : Int32} (hs : s < 5)  : CM K 2 yX5_hasCell cX5_hasCell 2 (some FieldType.boolean) [rf K (iS s), .int a0] M (some (.int (bz (sp_X5_hasCell M s a0)))) M := by
  refine CM.ofZ (by decide) [some (rf K (iS s)), some (.int a0)] rfl (Nat.le_of_ble_eq_true rfl) (Nat.le_of_ble_eq_true rfl) (fun G hG _ hret => ?_)
  refine r_iload_n (pc := 0) hG dX5_hasCell_0 rfl ?_
  refine r_iconst (pc := 1) hG dX5_hasCell_1 ic_0 ?_
  refine r_aload_n (pc := 2) hG dX5_hasCell_2 rfl ?_
  refine gf_X5_cells (pc := 3) hs hG dX5_hasCell_3 tw_177 ?_
  refine r_iconst (pc := 6) hG dX5_hasCell_6 ic_1 ?_
  refine r_isub (pc := 7) hG dX5_hasCell_7 ?_
  refine cs_X8_within_n (pc := 8)  hG dX5_hasCell_8 nw_RX5_57 (c_X8_within) (by decide) (Nat.le_of_ble_eq_true rfl) ?_
  exact hret _ _ _ _ dX5_hasCell_11 (bz_e (by unfold sp_X5_hasCell; exact rfl)) rfl

def sp_X5_hasWindow (M : MT) (s : Nat) (a0 : Int32) : Bool :=
  (sp_X8_within a0 0 ((M.1 s 0 0) - 1))
set_option maxRecDepth 20000 in
theorem c_X5_hasWindow {K : KT} {M : MT} {s : Nat} {a0 : Int32} (hs : s < 5)  : CM K 2 yX5_hasWindow cX5_hasWindow 2 (some FieldType.boolean) [rf K (iS s), .int a0] M (some (.int (bz (sp_X5_hasWindow M s a0)))) M := by
  refine CM.ofZ (by decide) [some (rf K (iS s)), some (.int a0)] rfl (Nat.le_of_ble_eq_true rfl) (Nat.le_of_ble_eq_true rfl) (fun G hG _ hret => ?_)
  refine r_iload_n (pc := 0) hG dX5_hasWindow_0 rfl ?_
  refine r_iconst (pc := 1) hG dX5_hasWindow_1 ic_0 ?_
  refine r_aload_n (pc := 2) hG dX5_hasWindow_2 rfl ?_
  refine gf_X5_windowCount (pc := 3) hs hG dX5_hasWindow_3 tw_169 ?_
  refine r_iconst (pc := 6) hG dX5_hasWindow_6 ic_1 ?_
  refine r_isub (pc := 7) hG dX5_hasWindow_7 ?_
  refine cs_X8_within_n (pc := 8)  hG dX5_hasWindow_8 nw_RX5_57 (c_X8_within) (by decide) (Nat.le_of_ble_eq_true rfl) ?_
  exact hret _ _ _ _ dX5_hasWindow_11 (bz_e (by unfold sp_X5_hasWindow; exact rfl)) rfl

def sp_X5_hasPerson (M : MT) (s : Nat) (a0 : Int32) : Bool :=
  (sp_X8_within a0 0 ((M.1 s 1 0) - 1))
set_option maxRecDepth 20000 in
theorem c_X5_hasPerson {K : KT} {M : MT} {s : Nat} {a0 : Int32} (hs : s < 5)  : CM K 2 yX5_hasPerson cX5_hasPerson 2 (some FieldType.boolean) [rf K (iS s), .int a0] M (some (.int (bz (sp_X5_hasPerson M s a0)))) M := by
  refine CM.ofZ (by decide) [some (rf K (iS s)), some (.int a0)] rfl (Nat.le_of_ble_eq_true rfl) (Nat.le_of_ble_eq_true rfl) (fun G hG _ hret => ?_)
  refine r_iload_n (pc := 0) hG dX5_hasPerson_0 rfl ?_
  refine r_iconst (pc := 1) hG dX5_hasPerson_1 ic_0 ?_
  refine r_aload_n (pc := 2) hG dX5_hasPerson_2 rfl ?_
  refine gf_X5_personCount (pc := 3) hs hG dX5_hasPerson_3 tw_173 ?_
  refine r_iconst (pc := 6) hG dX5_hasPerson_6 ic_1 ?_
  refine r_isub (pc := 7) hG dX5_hasPerson_7 ?_
  refine cs_X8_within_n (pc := 8)  hG dX5_hasPerson_8 nw_RX5_57 (c_X8_within) (by decide) (Nat.le_of_ble_eq_true rfl) ?_
  exact hret _ _ _ _ dX5_hasPerson_11 (bz_e (by unfold sp_X5_hasPerson; exact rfl)) rfl

def sp_X5_hasRoomForWindow (M : MT) (s : Nat) : Bool :=
  if 8 ≤ (M.1 s 0 0) then
    false
  else
    true
set_option maxRecDepth 20000 in
theorem c_X5_hasRoomForWindow {K : KT} {M : MT} {s : Nat} (hs : s < 5)  : CM K 1 yX5_hasRoomForWindow cX5_hasRoomForWindow 1 (some FieldType.boolean) [rf K (iS s)] M (some (.int (bz (sp_X5_hasRoomForWindow M s)))) M := by
  refine CM.ofZ (by decide) [some (rf K (iS s))] rfl (Nat.le_of_ble_eq_true rfl) (Nat.le_of_ble_eq_true rfl) (fun G hG _ hret => ?_)
  refine r_aload_n (pc := 0) hG dX5_hasRoomForWindow_0 rfl ?_
  refine gf_X5_windowCount (pc := 1) hs hG dX5_hasRoomForWindow_1 tw_169 ?_
  refine r_bipush (pc := 4) hG dX5_hasRoomForWindow_4 bc_8 ?_
  refine r_icmp_ge (pc := 6) (tgt := 13) hG dX5_hasRoomForWindow_6 (by decide) (fun c1 => ?_) (fun c1 => ?_)
  · refine r_iconst (pc := 13) hG dX5_hasRoomForWindow_13 ic_0 ?_
    exact hret _ _ _ _ dX5_hasRoomForWindow_14 (bz_f (by unfold sp_X5_hasRoomForWindow; exact (if_pos c1))) rfl
  · refine r_iconst (pc := 9) hG dX5_hasRoomForWindow_9 ic_1 ?_
    refine r_goto (pc := 10) (tgt := 14) hG dX5_hasRoomForWindow_10 (by decide) ?_
    exact hret _ _ _ _ dX5_hasRoomForWindow_14 (bz_t (by unfold sp_X5_hasRoomForWindow; exact (if_neg c1))) rfl

def sp_X5_hasRoomForPerson (M : MT) (s : Nat) : Bool :=
  if 8 ≤ (M.1 s 1 0) then
    false
  else
    true
set_option maxRecDepth 20000 in
theorem c_X5_hasRoomForPerson {K : KT} {M : MT} {s : Nat} (hs : s < 5)  : CM K 1 yX5_hasRoomForPerson cX5_hasRoomForPerson 1 (some FieldType.boolean) [rf K (iS s)] M (some (.int (bz (sp_X5_hasRoomForPerson M s)))) M := by
  refine CM.ofZ (by decide) [some (rf K (iS s))] rfl (Nat.le_of_ble_eq_true rfl) (Nat.le_of_ble_eq_true rfl) (fun G hG _ hret => ?_)
  refine r_aload_n (pc := 0) hG dX5_hasRoomForPerson_0 rfl ?_
  refine gf_X5_personCount (pc := 1) hs hG dX5_hasRoomForPerson_1 tw_173 ?_
  refine r_bipush (pc := 4) hG dX5_hasRoomForPerson_4 bc_8 ?_
  refine r_icmp_ge (pc := 6) (tgt := 13) hG dX5_hasRoomForPerson_6 (by decide) (fun c1 => ?_) (fun c1 => ?_)
  · refine r_iconst (pc := 13) hG dX5_hasRoomForPerson_13 ic_0 ?_
    exact hret _ _ _ _ dX5_hasRoomForPerson_14 (bz_f (by unfold sp_X5_hasRoomForPerson; exact (if_pos c1))) rfl
  · refine r_iconst (pc := 9) hG dX5_hasRoomForPerson_9 ic_1 ?_
    refine r_goto (pc := 10) (tgt := 14) hG dX5_hasRoomForPerson_10 (by decide) ?_
    exact hret _ _ _ _ dX5_hasRoomForPerson_14 (bz_t (by unfold sp_X5_hasRoomForPerson; exact (if_neg c1))) rfl
