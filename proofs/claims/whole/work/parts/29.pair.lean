theorem fndN_inv {β : Type} {P : Nat → Bool} {A : Nat → β} {B : β} (Q : β → Prop) : ∀ (n i : Nat), (∀ k, k < i + n → Q (A k)) → Q B → Q (fndN P A B n i)
  | 0, _, _, h => h
  | n + 1, i, h, hB => by
    unfold fndN
    split
    · exact h i (by omega)
    · exact fndN_inv Q n (i + 1) (fun k hk => h k (by omega)) hB
/-- a counter that falls: n less 1, .., 0, then -1 -/
def dn (n i : Nat) : Int32 := if i < n then nI (n - 1 - i) else -1
theorem dn_bd {n i k : Nat} (h : i < n) (hn : n ≤ k) (hk : k ≤ 1000) : bd (dn n i) k := by
  unfold dn
  rw [if_pos h]
  exact bd_nI (by omega) (by omega)
theorem dn_neg {n i : Nat} (hn : n ≤ 1000) : dn n i < 0 ↔ n ≤ i := by
  unfold dn
  split
  · constructor
    · intro h; exact absurd h (nI_pos (by omega))
    · intro h; omega
  · constructor
    · intro _; omega
    · intro _; decide
theorem dn_0 {x : Int32} {n k : Nat} (h : bd x k) (hk : k ≤ 1000) (hn : n = tn x) : dn n 0 = x - 1 := by
  have e := bd_eq h
  have hl := bd_lt h
  unfold dn
  subst hn
  split
  · rename_i q
    obtain ⟨j, hj⟩ : ∃ j, tn x = j + 1 := ⟨tn x - 1, by omega⟩
    conv => rhs; rw [e]
    rw [hj, nI_pred]; rfl
  · rename_i q
    have : tn x = 0 := by omega
    conv => rhs; rw [e, this]
    decide
theorem dn_step {n i : Nat} (h : i < n) (hn : n ≤ 1000) : dn n (i + 1) = dn n i + (-1) := by
  unfold dn
  rw [if_pos h]
  split
  · rename_i q
    obtain ⟨j, hj⟩ : ∃ j, n - 1 - i = j + 1 := ⟨n - 1 - i - 1, by omega⟩
    rw [hj, show n - 1 - (i + 1) = j by omega, ← nI_pred j, Int32.sub_eq_add_neg]
  · rename_i q
    rw [show n - 1 - i = 0 by omega]
    decide
theorem all_tab : ∀ k, k < 9 → ((1 : Int32) <<< (nI k &&& 31)) - 1 = nI (2 ^ k - 1) := by decide +kernel
/-- 2 to the x -/
def pw2 (x : Int32) : Nat := 2 ^ tn x
theorem all_eq {x : Int32} (h : bd x 9) : ((1 : Int32) <<< (x &&& 31)) - 1 = nI (pw2 x - 1) := by
  have := all_tab _ (bd_lt h)
  rw [← bd_eq h] at this
  exact this
theorem pow_le {x : Int32} (h : bd x 9) : 1 ≤ pw2 x ∧ pw2 x ≤ 256 := by
  have h1 := bd_lt h
  have : 2 ^ tn x ≤ 2 ^ 8 := Nat.pow_le_pow_right (by omega) (by omega)
  exact ⟨Nat.one_le_two_pow, this⟩
theorem tk_tab : ∀ a, a < 256 → ∀ p, p < 8 → (decide ((nI a ||| ((1 : Int32) <<< (nI p &&& 31))) < 0) == false && Nat.blt (nI a ||| ((1 : Int32) <<< (nI p &&& 31))).toNatClampNeg 256) = true := by decide +kernel
theorem tk_bd {a p : Int32} (ha : bd a 256) (hp : bd p 8) : bd (a ||| ((1 : Int32) <<< (p &&& 31))) 256 := by
  have := tk_tab _ (bd_lt ha) _ (bd_lt hp)
  rw [← bd_eq ha, ← bd_eq hp] at this
  exact bd_lit this
theorem suc_bd {a : Int32} (h : bd a 8) : bd (a + 1) 9 := by
  have hl := bd_lt h
  rw [bd_eq h, nI_1]
  exact bd_nI (by omega) (by omega)

def sp_X1_fondTogether (M : MT) : Int32 :=
  M.2.1 (13 + 0) 0
set_option maxRecDepth 20000 in
theorem c_X1_fondTogether {K : KT} {M : MT}    : CM K 1 yX1_fondTogether cX1_fondTogether 1 (some FieldType.int) [rf K 5] M (some (.int (sp_X1_fondTogether M))) M := by
  refine CM.ofI (by decide) [some (rf K 5)] rfl (Nat.le_of_ble_eq_true rfl) (Nat.le_of_ble_eq_true rfl) (fun G hG _ hret => ?_)
  refine r_aload_n (pc := 0) hG dX1_fondTogether_0 rfl ?_
  refine gf_X1_best (pc := 1)  hG dX1_fondTogether_1 tw_265 ?_
  refine r_iconst (pc := 4) hG dX1_fondTogether_4 ic_0 ?_
  refine aa_Bst (pc := 5)  hG dX1_fondTogether_5 (ix_lit (j := 0) (by decide)) ?_
  refine r_iconst (pc := 6) hG dX1_fondTogether_6 ic_0 ?_
  refine al_Bro (pc := 7) (by omega) hG dX1_fondTogether_7 (ix_lit (j := 0) (by decide)) ?_
  exact hret _ _ _ _ dX1_fondTogether_8 (Eq.symm (by unfold sp_X1_fondTogether; exact rfl)) rfl

def st_X1_countPaired_4 (M : MT) (i : Nat) (b4 : Int32) : Int32 :=
  if (M.2.1 5 i) = (-1) then
    b4
  else
    b4 + 1
def sp_X1_countPaired (M : MT) : Int32 :=
  itN (tn (M.1 3 0 0)) (st_X1_countPaired_4 M) 0
set_option maxRecDepth 20000 in
theorem c_X1_countPaired {K : KT} {M : MT}   (hwc : bd (M.1 3 0 0) 9) : CM K 1 yX1_countPaired cX1_countPaired 3 (some FieldType.int) [rf K 5] M (some (.int (sp_X1_countPaired M))) M := by
  refine CM.ofI (by decide) [some (rf K 5), none, none] rfl (Nat.le_of_ble_eq_true rfl) (Nat.le_of_ble_eq_true rfl) (fun G hG _ hret => ?_)
  refine r_iconst (pc := 0) hG dX1_countPaired_0 ic_0 ?_
  refine r_istore_n (pc := 1) (ls' := [_, _, _]) hG dX1_countPaired_1 rfl rfl ?_
  refine r_iconst (pc := 2) hG dX1_countPaired_2 ic_0 ?_
  refine r_istore_n (pc := 3) (ls' := [_, _, _]) hG dX1_countPaired_3 rfl rfl ?_
  have hb4 : bd (M.1 3 0 0) 9 := hwc
  have hb4l := bd_lt hb4
  have lp4 : ∀ i, i ≤ (tn (M.1 3 0 0)) → ∀ b4 : Int32, b4 = itN i (st_X1_countPaired_4 M) 0 → J G K M 4 [some (rf K 5), some (.int b4), some (.int (nI i))] [] := by
    refine up_ind (tn (M.1 3 0 0)) (fun i hi4 ih4 => ?_)
    intro b4 hg4
    refine r_iload_n (pc := 4) hG dX1_countPaired_4 rfl ?_
    refine r_aload_n (pc := 5) hG dX1_countPaired_5 rfl ?_
    refine gf_X1_draft (pc := 6)  hG dX1_countPaired_6 tw_263 ?_
    refine gf_X5_windowCount (pc := 9) (by omega) hG dX1_countPaired_9 tw_170 ?_
    refine r_icmp_ge (pc := 12) (tgt := 34) hG dX1_countPaired_12 (by decide) (fun c1 => ?_) (fun c1 => ?_)
    · have e4 : i = (tn (M.1 3 0 0)) := by have := (bd_le hb4 (by omega)).mp c1; omega
      subst hg4
      subst e4
      refine r_iload_n (pc := 34) hG dX1_countPaired_34 rfl ?_
      exact hret _ _ _ _ dX1_countPaired_35 (Eq.symm (by unfold sp_X1_countPaired; exact rfl)) rfl
    · have hl4 : i < (tn (M.1 3 0 0)) := by have := mt (bd_le hb4 (by omega)).mpr c1; omega
      refine r_aload_n (pc := 15) hG dX1_countPaired_15 rfl ?_
      refine gf_X1_partners (pc := 16)  hG dX1_countPaired_16 tw_266 ?_
      refine r_iload_n (pc := 19) hG dX1_countPaired_19 rfl ?_
      refine al_Prt (pc := 20)  hG dX1_countPaired_20 (ix_nI (by omega) (Nat.le_of_ble_eq_true rfl)) ?_
      refine r_iconst (pc := 21) hG dX1_countPaired_21 ic_m1 ?_
      refine r_icmp_eq (pc := 22) (tgt := 28) hG dX1_countPaired_22 (by decide) (fun c2 => ?_) (fun c2 => ?_)
      · refine r_iinc (pc := 28) (v := nI (i + 1)) (ls' := [_, _, _]) hG dX1_countPaired_28 rfl (nI_1 _) rfl rfl ?_
        refine r_goto (pc := 31) (tgt := 4) hG dX1_countPaired_31 (by decide) ?_
        have eN4 : b4 = st_X1_countPaired_4 M i (itN i (st_X1_countPaired_4 M) 0) := by rw [← hg4]; unfold st_X1_countPaired_4; exact Eq.symm (if_pos c2)
        refine J.wk (ls' := [some (rf K 5), some (.int b4), some (.int (nI (i + 1)))]) ?_ (Eq.refl 3) (wk_s rfl (wk_s rfl (wk_s rfl wk_0)))
        exact ih4 hl4 b4 eN4
      · refine r_iinc (pc := 25) (v := b4 + 1) (ls' := [_, _, _]) hG dX1_countPaired_25 rfl rfl rfl rfl ?_
        refine r_iinc (pc := 28) (v := nI (i + 1)) (ls' := [_, _, _]) hG dX1_countPaired_28 rfl (nI_1 _) rfl rfl ?_
        refine r_goto (pc := 31) (tgt := 4) hG dX1_countPaired_31 (by decide) ?_
        have eN4 : b4 + 1 = st_X1_countPaired_4 M i (itN i (st_X1_countPaired_4 M) 0) := by rw [← hg4]; unfold st_X1_countPaired_4; exact Eq.symm (if_neg c2)
        refine J.wk (ls' := [some (rf K 5), some (.int (b4 + 1)), some (.int (nI (i + 1)))]) ?_ (Eq.refl 3) (wk_s rfl (wk_s rfl (wk_s rfl wk_0)))
        exact ih4 hl4 (b4 + 1) eN4
  exact (lp4 0 (Nat.zero_le _) _ rfl).wk (Eq.refl 3) (wk_s rfl (wk_s rfl (wk_s rfl wk_0)))

def sp_X1_mostWith (M : MT) (a0 : Int32) (a1 : Int32) (a2 : Int32) : Int32 :=
  (sp_X5_fondness M 3 a0 a2) + (M.2.1 (13 + (tn (a0 + 1))) (tn (a1 ||| (1 <<< (a2 &&& 31)))))
set_option maxRecDepth 20000 in
theorem c_X1_mostWith {K : KT} {M : MT} {a0 : Int32} {a1 : Int32} {a2 : Int32}  (ha0b : bd (a0) 8) (ha1b : bd (a1) 256) (ha2b : bd (a2) 8) : CM K 3 yX1_mostWith cX1_mostWith 4 (some FieldType.int) [rf K 5, .int a0, .int a1, .int a2] M (some (.int (sp_X1_mostWith M a0 a1 a2))) M := by
  refine CM.ofI (by decide) [some (rf K 5), some (.int a0), some (.int a1), some (.int a2)] rfl (Nat.le_of_ble_eq_true rfl) (Nat.le_of_ble_eq_true rfl) (fun G hG _ hret => ?_)
  refine r_aload_n (pc := 0) hG dX1_mostWith_0 rfl ?_
  refine gf_X1_draft (pc := 1)  hG dX1_mostWith_1 tw_263 ?_
  refine r_iload_n (pc := 4) hG dX1_mostWith_4 rfl ?_
  refine r_iload_n (pc := 5) hG dX1_mostWith_5 rfl ?_
  refine cv_X5_fondness (pc := 6) (by omega) hG dX1_mostWith_6 tw_842 (c_X5_fondness (by omega) ha0b ha2b) (by decide) (Nat.le_of_ble_eq_true rfl) ?_
  refine r_aload_n (pc := 9) hG dX1_mostWith_9 rfl ?_
  refine gf_X1_best (pc := 10)  hG dX1_mostWith_10 tw_265 ?_
  refine r_iload_n (pc := 13) hG dX1_mostWith_13 rfl ?_
  refine r_iconst (pc := 14) hG dX1_mostWith_14 ic_1 ?_
  refine r_iadd (pc := 15) hG dX1_mostWith_15 ?_
  refine aa_Bst (pc := 16)  hG dX1_mostWith_16 (ix_bd (suc_bd ha0b)) ?_
  refine r_iload_n (pc := 17) hG dX1_mostWith_17 rfl ?_
  refine r_iconst (pc := 18) hG dX1_mostWith_18 ic_1 ?_
  refine r_iload_n (pc := 19) hG dX1_mostWith_19 rfl ?_
  refine r_ishl (pc := 20) hG dX1_mostWith_20 ?_
  refine r_ior (pc := 21) hG dX1_mostWith_21 ?_
  refine al_Bro (pc := 22) (bd_lt (suc_bd ha0b)) hG dX1_mostWith_22 (ix_bd (tk_bd ha1b ha2b)) ?_
  refine r_iadd (pc := 23) hG dX1_mostWith_23 ?_
  exact hret _ _ _ _ dX1_mostWith_24 (Eq.symm (by unfold sp_X1_mostWith; exact rfl)) rfl

def st_X1_mostFrom_26 (M : MT) (a0 : Int32) (a1 : Int32) (i : Nat) (b26 : Int32) : Int32 :=
  if ((((M.2.1 4 (tn a0)) &&& (a1 ^^^ (-1))) >>> ((nI i) &&& 31)) &&& 1) = 0 then
    b26
  else
    imax b26 (sp_X1_mostWith M a0 a1 (nI i))
def sp_X1_mostFrom (M : MT) (a0 : Int32) (a1 : Int32) : Int32 :=
  itN (tn (M.1 3 1 0)) (st_X1_mostFrom_26 M a0 a1) (M.2.1 (13 + (tn (a0 + 1))) (tn a1))
set_option maxRecDepth 20000 in
theorem c_X1_mostFrom {K : KT} {M : MT} {a0 : Int32} {a1 : Int32}  (ha0b : bd (a0) 8) (ha1b : bd (a1) 256) (hok3 : OKs M 3) : CM K 4 yX1_mostFrom cX1_mostFrom 6 (some FieldType.int) [rf K 5, .int a0, .int a1] M (some (.int (sp_X1_mostFrom M a0 a1))) M := by
  refine CM.ofI (by decide) [some (rf K 5), some (.int a0), some (.int a1), none, none, none] rfl (Nat.le_of_ble_eq_true rfl) (Nat.le_of_ble_eq_true rfl) (fun G hG _ hret => ?_)
  obtain ⟨hwc3, hpc3, ⟨hcl3, hcm3⟩, hwi3, hda3, hle3, hk83, ha83, hW3, hP3⟩ := id hok3
  have hwl3 := bd_lt hwc3
  have hpl3 := bd_lt hpc3
  have hcl3l := bd_lt hcl3
  refine r_aload_n (pc := 0) hG dX1_mostFrom_0 rfl ?_
  refine gf_X1_best (pc := 1)  hG dX1_mostFrom_1 tw_265 ?_
  refine r_iload_n (pc := 4) hG dX1_mostFrom_4 rfl ?_
  refine r_iconst (pc := 5) hG dX1_mostFrom_5 ic_1 ?_
  refine r_iadd (pc := 6) hG dX1_mostFrom_6 ?_
  refine aa_Bst (pc := 7)  hG dX1_mostFrom_7 (ix_bd (suc_bd ha0b)) ?_
  refine r_iload_n (pc := 8) hG dX1_mostFrom_8 rfl ?_
  refine al_Bro (pc := 9) (bd_lt (suc_bd ha0b)) hG dX1_mostFrom_9 (ix_bd ha1b) ?_
  refine r_istore_n (pc := 10) (ls' := [_, _, _, _, _, _]) hG dX1_mostFrom_10 rfl rfl ?_
  refine r_aload_n (pc := 11) hG dX1_mostFrom_11 rfl ?_
  refine gf_X1_hits (pc := 12)  hG dX1_mostFrom_12 tw_264 ?_
  refine r_iload_n (pc := 15) hG dX1_mostFrom_15 rfl ?_
  refine al_Hit (pc := 16)  hG dX1_mostFrom_16 (ix_bd ha0b) ?_
  refine r_iload_n (pc := 17) hG dX1_mostFrom_17 rfl ?_
  refine r_iconst (pc := 18) hG dX1_mostFrom_18 ic_m1 ?_
  refine r_ixor (pc := 19) hG dX1_mostFrom_19 ?_
  refine r_iand (pc := 20) hG dX1_mostFrom_20 ?_
  refine r_istore (pc := 21) (ls' := [_, _, _, _, _, _]) hG dX1_mostFrom_21 rfl rfl ?_
  refine r_iconst (pc := 23) hG dX1_mostFrom_23 ic_0 ?_
  refine r_istore (pc := 24) (ls' := [_, _, _, _, _, _]) hG dX1_mostFrom_24 rfl rfl ?_
  have hb26 : bd (M.1 3 1 0) 9 := hpc3
  have hb26l := bd_lt hb26
  have lp26 : ∀ i, i ≤ (tn (M.1 3 1 0)) → ∀ b26 : Int32, b26 = itN i (st_X1_mostFrom_26 M a0 a1) (M.2.1 (13 + (tn (a0 + 1))) (tn a1)) → J G K M 26 [some (rf K 5), some (.int a0), some (.int a1), some (.int b26), some (.int ((M.2.1 4 (tn a0)) &&& (a1 ^^^ (-1)))), some (.int (nI i))] [] := by
    refine up_ind (tn (M.1 3 1 0)) (fun i hi26 ih26 => ?_)
    intro b26 hg26
    refine r_iload (pc := 26) hG dX1_mostFrom_26 rfl ?_
    refine r_aload_n (pc := 28) hG dX1_mostFrom_28 rfl ?_
    refine gf_X1_draft (pc := 29)  hG dX1_mostFrom_29 tw_263 ?_
    refine gf_X5_personCount (pc := 32) (by omega) hG dX1_mostFrom_32 tw_174 ?_
    refine r_icmp_ge (pc := 35) (tgt := 67) hG dX1_mostFrom_35 (by decide) (fun c1 => ?_) (fun c1 => ?_)
    · have e26 : i = (tn (M.1 3 1 0)) := by have := (bd_le hb26 (by omega)).mp c1; omega
      subst hg26
      subst e26
      refine r_iload_n (pc := 67) hG dX1_mostFrom_67 rfl ?_
      exact hret _ _ _ _ dX1_mostFrom_68 (Eq.symm (by unfold sp_X1_mostFrom; exact rfl)) rfl
    · have hl26 : i < (tn (M.1 3 1 0)) := by have := mt (bd_le hb26 (by omega)).mpr c1; omega
      refine r_iload (pc := 38) hG dX1_mostFrom_38 rfl ?_
      refine r_iload (pc := 40) hG dX1_mostFrom_40 rfl ?_
      refine r_ishr (pc := 42) hG dX1_mostFrom_42 ?_
      refine r_iconst (pc := 43) hG dX1_mostFrom_43 ic_1 ?_
      refine r_iand (pc := 44) hG dX1_mostFrom_44 ?_
      refine r_if_eq (pc := 45) (tgt := 61) hG dX1_mostFrom_45 (by decide) (fun c2 => ?_) (fun c2 => ?_)
      · refine r_iinc (pc := 61) (v := nI (i + 1)) (ls' := [_, _, _, _, _, _]) hG dX1_mostFrom_61 rfl (nI_1 _) rfl rfl ?_
        refine r_goto (pc := 64) (tgt := 26) hG dX1_mostFrom_64 (by decide) ?_
        have eN26 : b26 = st_X1_mostFrom_26 M a0 a1 i (itN i (st_X1_mostFrom_26 M a0 a1) (M.2.1 (13 + (tn (a0 + 1))) (tn a1))) := by rw [← hg26]; unfold st_X1_mostFrom_26; exact Eq.symm (if_pos c2)
        refine J.wk (ls' := [some (rf K 5), some (.int a0), some (.int a1), some (.int b26), some (.int ((M.2.1 4 (tn a0)) &&& (a1 ^^^ (-1)))), some (.int (nI (i + 1)))]) ?_ (Eq.refl 6) (wk_s rfl (wk_s rfl (wk_s rfl (wk_s rfl (wk_s rfl (wk_s rfl wk_0))))))
        exact ih26 hl26 b26 eN26
      · refine r_iload_n (pc := 48) hG dX1_mostFrom_48 rfl ?_
        refine r_aload_n (pc := 49) hG dX1_mostFrom_49 rfl ?_
        refine r_iload_n (pc := 50) hG dX1_mostFrom_50 rfl ?_
        refine r_iload_n (pc := 51) hG dX1_mostFrom_51 rfl ?_
        refine r_iload (pc := 52) hG dX1_mostFrom_52 rfl ?_
        refine cv_X1_mostWith (pc := 54)  hG dX1_mostFrom_54 tw_838 (c_X1_mostWith ha0b ha1b (bd_nI (by omega) (Nat.le_of_ble_eq_true rfl))) (by decide) (Nat.le_of_ble_eq_true rfl) ?_
        refine r_mmax (pc := 57) hG dX1_mostFrom_57 tw_843 (by decide) (Nat.le_of_ble_eq_true rfl) ?_
        refine r_istore_n (pc := 60) (ls' := [_, _, _, _, _, _]) hG dX1_mostFrom_60 rfl rfl ?_
        refine r_iinc (pc := 61) (v := nI (i + 1)) (ls' := [_, _, _, _, _, _]) hG dX1_mostFrom_61 rfl (nI_1 _) rfl rfl ?_
        refine r_goto (pc := 64) (tgt := 26) hG dX1_mostFrom_64 (by decide) ?_
        have eN26 : imax b26 (sp_X1_mostWith M a0 a1 (nI i)) = st_X1_mostFrom_26 M a0 a1 i (itN i (st_X1_mostFrom_26 M a0 a1) (M.2.1 (13 + (tn (a0 + 1))) (tn a1))) := by rw [← hg26]; unfold st_X1_mostFrom_26; exact Eq.symm (if_neg c2)
        refine J.wk (ls' := [some (rf K 5), some (.int a0), some (.int a1), some (.int (imax b26 (sp_X1_mostWith M a0 a1 (nI i)))), some (.int ((M.2.1 4 (tn a0)) &&& (a1 ^^^ (-1)))), some (.int (nI (i + 1)))]) ?_ (Eq.refl 6) (wk_s rfl (wk_s rfl (wk_s rfl (wk_s rfl (wk_s rfl (wk_s rfl wk_0))))))
        exact ih26 hl26 (imax b26 (sp_X1_mostWith M a0 a1 (nI i))) eN26
  exact (lp26 0 (Nat.zero_le _) _ rfl).wk (Eq.refl 6) (wk_s rfl (wk_s rfl (wk_s rfl (wk_s rfl (wk_s rfl (wk_s rfl wk_0))))))

def ps_X1_firstBest_40 (M : MT) (a0 : Int32) (a1 : Int32) (i : Nat) : Bool :=
  if ((((M.2.1 4 (tn a0)) &&& (a1 ^^^ (-1))) >>> ((nI i) &&& 31)) &&& 1) = 0 then
    false
  else
    if (sp_X1_mostWith M a0 a1 (nI i)) = (M.2.1 (13 + (tn a0)) (tn a1)) then
      true
    else
      false
def sp_X1_firstBest (M : MT) (a0 : Int32) (a1 : Int32) : Int32 :=
  if (M.2.1 (13 + (tn (a0 + 1))) (tn a1)) = (M.2.1 (13 + (tn a0)) (tn a1)) then
    (-1)
  else
    fndN (ps_X1_firstBest_40 M a0 a1) (fun i => (if ((((M.2.1 4 (tn a0)) &&& (a1 ^^^ (-1))) >>> ((nI i) &&& 31)) &&& 1) = 0 then
  (-1)
else
  if (sp_X1_mostWith M a0 a1 (nI i)) = (M.2.1 (13 + (tn a0)) (tn a1)) then
    nI i
  else
    (-1))) ((-1)) (tn (M.1 3 1 0)) 0
set_option maxRecDepth 20000 in
theorem c_X1_firstBest {K : KT} {M : MT} {a0 : Int32} {a1 : Int32}  (ha0b : bd (a0) 8) (ha1b : bd (a1) 256) (hok3 : OKs M 3) : CM K 4 yX1_firstBest cX1_firstBest 6 (some FieldType.int) [rf K 5, .int a0, .int a1] M (some (.int (sp_X1_firstBest M a0 a1))) M := by
  refine CM.ofI (by decide) [some (rf K 5), some (.int a0), some (.int a1), none, none, none] rfl (Nat.le_of_ble_eq_true rfl) (Nat.le_of_ble_eq_true rfl) (fun G hG _ hret => ?_)
  obtain ⟨hwc3, hpc3, ⟨hcl3, hcm3⟩, hwi3, hda3, hle3, hk83, ha83, hW3, hP3⟩ := id hok3
  have hwl3 := bd_lt hwc3
  have hpl3 := bd_lt hpc3
  have hcl3l := bd_lt hcl3
  refine r_aload_n (pc := 0) hG dX1_firstBest_0 rfl ?_
  refine gf_X1_best (pc := 1)  hG dX1_firstBest_1 tw_265 ?_
  refine r_iload_n (pc := 4) hG dX1_firstBest_4 rfl ?_
  refine aa_Bst (pc := 5)  hG dX1_firstBest_5 (ix_bd (bd_mono ha0b (Nat.le_of_ble_eq_true rfl))) ?_
  refine r_iload_n (pc := 6) hG dX1_firstBest_6 rfl ?_
  refine al_Bro (pc := 7) (bd_lt (bd_mono ha0b (Nat.le_of_ble_eq_true rfl))) hG dX1_firstBest_7 (ix_bd ha1b) ?_
  refine r_istore_n (pc := 8) (ls' := [_, _, _, _, _, _]) hG dX1_firstBest_8 rfl rfl ?_
  refine r_aload_n (pc := 9) hG dX1_firstBest_9 rfl ?_
  refine gf_X1_best (pc := 10)  hG dX1_firstBest_10 tw_265 ?_
  refine r_iload_n (pc := 13) hG dX1_firstBest_13 rfl ?_
  refine r_iconst (pc := 14) hG dX1_firstBest_14 ic_1 ?_
  refine r_iadd (pc := 15) hG dX1_firstBest_15 ?_
  refine aa_Bst (pc := 16)  hG dX1_firstBest_16 (ix_bd (suc_bd ha0b)) ?_
  refine r_iload_n (pc := 17) hG dX1_firstBest_17 rfl ?_
  refine al_Bro (pc := 18) (bd_lt (suc_bd ha0b)) hG dX1_firstBest_18 (ix_bd ha1b) ?_
  refine r_iload_n (pc := 19) hG dX1_firstBest_19 rfl ?_
  refine r_icmp_ne (pc := 20) (tgt := 25) hG dX1_firstBest_20 (by decide) (fun c1 => ?_) (fun c1 => ?_)
  · refine r_aload_n (pc := 25) hG dX1_firstBest_25 rfl ?_
    refine gf_X1_hits (pc := 26)  hG dX1_firstBest_26 tw_264 ?_
    refine r_iload_n (pc := 29) hG dX1_firstBest_29 rfl ?_
    refine al_Hit (pc := 30)  hG dX1_firstBest_30 (ix_bd ha0b) ?_
    refine r_iload_n (pc := 31) hG dX1_firstBest_31 rfl ?_
    refine r_iconst (pc := 32) hG dX1_firstBest_32 ic_m1 ?_
    refine r_ixor (pc := 33) hG dX1_firstBest_33 ?_
    refine r_iand (pc := 34) hG dX1_firstBest_34 ?_
    refine r_istore (pc := 35) (ls' := [_, _, _, _, _, _]) hG dX1_firstBest_35 rfl rfl ?_
    refine r_iconst (pc := 37) hG dX1_firstBest_37 ic_0 ?_
    refine r_istore (pc := 38) (ls' := [_, _, _, _, _, _]) hG dX1_firstBest_38 rfl rfl ?_
    have hb40 : bd (M.1 3 1 0) 9 := hpc3
    have hb40l := bd_lt hb40
    have lp40 : ∀ i, i ≤ (tn (M.1 3 1 0)) → (∀ k, k < i → ps_X1_firstBest_40 M a0 a1 k = false) → J G K M 40 [some (rf K 5), some (.int a0), some (.int a1), some (.int (M.2.1 (13 + (tn a0)) (tn a1))), some (.int ((M.2.1 4 (tn a0)) &&& (a1 ^^^ (-1)))), some (.int (nI i))] [] := by
      refine up_ind (tn (M.1 3 1 0)) (fun i hi40 ih40 => ?_)
      intro hp40
      refine r_iload (pc := 40) hG dX1_firstBest_40 rfl ?_
      refine r_aload_n (pc := 42) hG dX1_firstBest_42 rfl ?_
      refine gf_X1_draft (pc := 43)  hG dX1_firstBest_43 tw_263 ?_
      refine gf_X5_personCount (pc := 46) (by omega) hG dX1_firstBest_46 tw_174 ?_
      refine r_icmp_ge (pc := 49) (tgt := 83) hG dX1_firstBest_49 (by decide) (fun c2 => ?_) (fun c2 => ?_)
      · have e40 : i = (tn (M.1 3 1 0)) := by have := (bd_le hb40 (by omega)).mp c2; omega
        subst e40
        refine r_iconst (pc := 83) hG dX1_firstBest_83 ic_m1 ?_
        exact hret _ _ _ _ dX1_firstBest_84 (Eq.symm (by unfold sp_X1_firstBest; exact ((if_neg c1).trans (fndN_none (tn (M.1 3 1 0)) 0 (fun k _ hk => hp40 k (by omega)))))) rfl
      · have hl40 : i < (tn (M.1 3 1 0)) := by have := mt (bd_le hb40 (by omega)).mpr c2; omega
        refine r_iload (pc := 52) hG dX1_firstBest_52 rfl ?_
        refine r_iload (pc := 54) hG dX1_firstBest_54 rfl ?_
        refine r_ishr (pc := 56) hG dX1_firstBest_56 ?_
        refine r_iconst (pc := 57) hG dX1_firstBest_57 ic_1 ?_
        refine r_iand (pc := 58) hG dX1_firstBest_58 ?_
        refine r_if_eq (pc := 59) (tgt := 77) hG dX1_firstBest_59 (by decide) (fun c3 => ?_) (fun c3 => ?_)
        · refine r_iinc (pc := 77) (v := nI (i + 1)) (ls' := [_, _, _, _, _, _]) hG dX1_firstBest_77 rfl (nI_1 _) rfl rfl ?_
          refine r_goto (pc := 80) (tgt := 40) hG dX1_firstBest_80 (by decide) ?_
          exact (ih40 hl40 (fun k hk => (Nat.lt_or_eq_of_le (Nat.le_of_lt_succ hk)).elim (hp40 k) (fun q => by subst q; unfold ps_X1_firstBest_40; exact (if_pos c3)))).wk (Eq.refl 6) (wk_s rfl (wk_s rfl (wk_s rfl (wk_s rfl (wk_s rfl (wk_s rfl wk_0))))))
        · refine r_aload_n (pc := 62) hG dX1_firstBest_62 rfl ?_
          refine r_iload_n (pc := 63) hG dX1_firstBest_63 rfl ?_
          refine r_iload_n (pc := 64) hG dX1_firstBest_64 rfl ?_
          refine r_iload (pc := 65) hG dX1_firstBest_65 rfl ?_
          refine cv_X1_mostWith (pc := 67)  hG dX1_firstBest_67 tw_838 (c_X1_mostWith ha0b ha1b (bd_nI (by omega) (Nat.le_of_ble_eq_true rfl))) (by decide) (Nat.le_of_ble_eq_true rfl) ?_
          refine r_iload_n (pc := 70) hG dX1_firstBest_70 rfl ?_
          refine r_icmp_ne (pc := 71) (tgt := 77) hG dX1_firstBest_71 (by decide) (fun c4 => ?_) (fun c4 => ?_)
          · refine r_iinc (pc := 77) (v := nI (i + 1)) (ls' := [_, _, _, _, _, _]) hG dX1_firstBest_77 rfl (nI_1 _) rfl rfl ?_
            refine r_goto (pc := 80) (tgt := 40) hG dX1_firstBest_80 (by decide) ?_
            exact (ih40 hl40 (fun k hk => (Nat.lt_or_eq_of_le (Nat.le_of_lt_succ hk)).elim (hp40 k) (fun q => by subst q; unfold ps_X1_firstBest_40; exact ((if_neg c3).trans (if_neg c4))))).wk (Eq.refl 6) (wk_s rfl (wk_s rfl (wk_s rfl (wk_s rfl (wk_s rfl (wk_s rfl wk_0))))))
          · refine r_iload (pc := 74) hG dX1_firstBest_74 rfl ?_
            exact hret _ _ _ _ dX1_firstBest_76 (Eq.symm (by unfold sp_X1_firstBest; exact ((if_neg c1).trans ((fndN_hit (tn (M.1 3 1 0)) 0 i (Nat.zero_le _) (by omega) (by unfold ps_X1_firstBest_40; exact ((if_neg c3).trans (if_pos c4))) (fun k _ hk => hp40 k hk)).trans ((if_neg c3).trans (if_pos c4)))))) rfl
    exact (lp40 0 (Nat.zero_le _) (fun k hk => absurd hk (Nat.not_lt_zero k))).wk (Eq.refl 6) (wk_s rfl (wk_s rfl (wk_s rfl (wk_s rfl (wk_s rfl (wk_s rfl wk_0))))))
  · refine r_iconst (pc := 23) hG dX1_firstBest_23 ic_m1 ?_
    exact hret _ _ _ _ dX1_firstBest_24 (Eq.symm (by unfold sp_X1_firstBest; exact (if_pos c1))) rfl

theorem fB_bd {M : MT} {a b : Int32} (h : bd (M.1 3 1 0) 9) : sp_X1_firstBest M a b = -1 ∨ bd (sp_X1_firstBest M a b) 8 := by
  have hl := bd_lt h
  unfold sp_X1_firstBest
  (repeat' split) <;> first | exact Or.inl rfl | exact fndN_inv (fun x => x = -1 ∨ bd x 8) _ _ (fun k hk => by (repeat' split) <;> first | exact Or.inr (bd_nI (by omega) (Nat.le_of_ble_eq_true rfl)) | exact Or.inl rfl) (Or.inl rfl)

def st_X1_choose_4 (M : MT) (i : Nat) (b4 : Int32 × MT) : Int32 × MT :=
  if ((u2 b4.2 5 i (sp_X1_firstBest b4.2 (nI i) b4.1)).2.1 5 i) = (-1) then
    (b4.1, u2 b4.2 5 i (sp_X1_firstBest b4.2 (nI i) b4.1))
  else
    (b4.1 ||| (1 <<< (((u2 b4.2 5 i (sp_X1_firstBest b4.2 (nI i) b4.1)).2.1 5 i) &&& 31)), u2 b4.2 5 i (sp_X1_firstBest b4.2 (nI i) b4.1))
def sp_X1_choose (M : MT) : MT :=
  ((itN (tn (M.1 3 0 0)) (st_X1_choose_4 M) (0, M)).2)
set_option maxRecDepth 20000 in
theorem c_X1_choose {K : KT} {M : MT}   (hok3 : OKs M 3) : CM K 5 yX1_choose cX1_choose 3 none [rf K 5] M none (sp_X1_choose M) := by
  refine CM.ofV (by decide) [some (rf K 5), none, none] rfl (Nat.le_of_ble_eq_true rfl) (Nat.le_of_ble_eq_true rfl) (fun G hG _ hret => ?_)
  obtain ⟨hwc3, hpc3, ⟨hcl3, hcm3⟩, hwi3, hda3, hle3, hk83, ha83, hW3, hP3⟩ := id hok3
  have hwl3 := bd_lt hwc3
  have hpl3 := bd_lt hpc3
  have hcl3l := bd_lt hcl3
  refine r_iconst (pc := 0) hG dX1_choose_0 ic_0 ?_
  refine r_istore_n (pc := 1) (ls' := [_, _, _]) hG dX1_choose_1 rfl rfl ?_
  refine r_iconst (pc := 2) hG dX1_choose_2 ic_0 ?_
  refine r_istore_n (pc := 3) (ls' := [_, _, _]) hG dX1_choose_3 rfl rfl ?_
  have lp4 : ∀ i, i ≤ (tn (M.1 3 0 0)) → ∀ b4 : Int32 × MT, b4 = itN i (st_X1_choose_4 M) (0, M) → J G K b4.2 4 [some (rf K 5), some (.int b4.1), some (.int (nI i))] [] := by
    refine up_ind (tn (M.1 3 0 0)) (fun i hi4 ih4 => ?_)
    intro b4 hg4
    have hq4 : b4.2.1 = M.1 := by subst hg4; exact itN_inv (fun x : Int32 × MT => x.2.1 = M.1) i rfl (fun k m hk hm => by unfold st_X1_choose_4; (repeat' split) <;> exact hm)
    have ht4 : b4.2.1 = M.1 ∧ bd b4.1 256 := by subst hg4; exact itN_inv (fun x : Int32 × MT => x.2.1 = M.1 ∧ bd x.1 256) i ⟨rfl, show bd 0 256 from bd_lit (by decide)⟩ (fun k m hk hm => by have hb := fB_bd (M := m.2) (a := nI k) (b := m.1) (by rw [hm.1]; exact hpc3); have e : (u2 m.2 5 k (sp_X1_firstBest m.2 (nI k) m.1)).2.1 5 k = sp_X1_firstBest m.2 (nI k) m.1 := if_pos ⟨rfl, rfl⟩; unfold st_X1_choose_4; rw [e]; split <;> first | exact hm | (rename_i q; exact ⟨hm.1, tk_bd hm.2 (hb.resolve_left q)⟩))
    have hok4 : OKs b4.2 3 := by exact OKs_congr hok3 (by rw [hq4])
    refine r_iload_n (pc := 4) hG dX1_choose_4 rfl ?_
    refine r_aload_n (pc := 5) hG dX1_choose_5 rfl ?_
    refine gf_X1_draft (pc := 6)  hG dX1_choose_6 tw_263 ?_
    refine gf_X5_windowCount (pc := 9) (by omega) hG dX1_choose_9 tw_170 ?_
    refine r_icmp_ge (pc := 12) (tgt := 54) hG dX1_choose_12 (by decide) (fun c1 => ?_) (fun c1 => ?_)
    · have e4 : i = (tn (M.1 3 0 0)) := by rw [hq4] at c1; have := (bd_le hwc3 (by omega)).mp c1; omega
      subst hg4
      subst e4
      exact hret _ _ _ dX1_choose_54 (Eq.symm (by unfold sp_X1_choose; exact rfl))
    · have hl4 : i < (tn (M.1 3 0 0)) := by rw [hq4] at c1; have := mt (bd_le hwc3 (by omega)).mpr c1; omega
      refine r_aload_n (pc := 15) hG dX1_choose_15 rfl ?_
      refine gf_X1_partners (pc := 16)  hG dX1_choose_16 tw_266 ?_
      refine r_iload_n (pc := 19) hG dX1_choose_19 rfl ?_
      refine r_aload_n (pc := 20) hG dX1_choose_20 rfl ?_
      refine r_iload_n (pc := 21) hG dX1_choose_21 rfl ?_
      refine r_iload_n (pc := 22) hG dX1_choose_22 rfl ?_
      refine cv_X1_firstBest (pc := 23)  hG dX1_choose_23 tw_850 (c_X1_firstBest (bd_nI (by omega) (Nat.le_of_ble_eq_true rfl)) ht4.2 hok4) (by decide) (Nat.le_of_ble_eq_true rfl) ?_
      refine as_Prt (pc := 26)  hG dX1_choose_26 (ix_nI (by omega) (Nat.le_of_ble_eq_true rfl)) ?_
      refine r_aload_n (pc := 27) hG dX1_choose_27 rfl ?_
      refine gf_X1_partners (pc := 28)  hG dX1_choose_28 tw_266 ?_
      refine r_iload_n (pc := 31) hG dX1_choose_31 rfl ?_
      refine al_Prt (pc := 32)  hG dX1_choose_32 (ix_nI (by omega) (Nat.le_of_ble_eq_true rfl)) ?_
      refine r_iconst (pc := 33) hG dX1_choose_33 ic_m1 ?_
      refine r_icmp_eq (pc := 34) (tgt := 48) hG dX1_choose_34 (by decide) (fun c2 => ?_) (fun c2 => ?_)
      · refine r_iinc (pc := 48) (v := nI (i + 1)) (ls' := [_, _, _]) hG dX1_choose_48 rfl (nI_1 _) rfl rfl ?_
        refine r_goto (pc := 51) (tgt := 4) hG dX1_choose_51 (by decide) ?_
        have eN4 : (b4.1, u2 b4.2 5 i (sp_X1_firstBest b4.2 (nI i) b4.1)) = st_X1_choose_4 M i (itN i (st_X1_choose_4 M) (0, M)) := by rw [← hg4]; unfold st_X1_choose_4; exact Eq.symm (if_pos c2)
        refine J.wk (ls' := [some (rf K 5), some (.int b4.1), some (.int (nI (i + 1)))]) ?_ (Eq.refl 3) (wk_s rfl (wk_s rfl (wk_s rfl wk_0)))
        exact ih4 hl4 (b4.1, u2 b4.2 5 i (sp_X1_firstBest b4.2 (nI i) b4.1)) eN4
      · refine r_iload_n (pc := 37) hG dX1_choose_37 rfl ?_
        refine r_iconst (pc := 38) hG dX1_choose_38 ic_1 ?_
        refine r_aload_n (pc := 39) hG dX1_choose_39 rfl ?_
        refine gf_X1_partners (pc := 40)  hG dX1_choose_40 tw_266 ?_
        refine r_iload_n (pc := 43) hG dX1_choose_43 rfl ?_
        refine al_Prt (pc := 44)  hG dX1_choose_44 (ix_nI (by omega) (Nat.le_of_ble_eq_true rfl)) ?_
        refine r_ishl (pc := 45) hG dX1_choose_45 ?_
        refine r_ior (pc := 46) hG dX1_choose_46 ?_
        refine r_istore_n (pc := 47) (ls' := [_, _, _]) hG dX1_choose_47 rfl rfl ?_
        refine r_iinc (pc := 48) (v := nI (i + 1)) (ls' := [_, _, _]) hG dX1_choose_48 rfl (nI_1 _) rfl rfl ?_
        refine r_goto (pc := 51) (tgt := 4) hG dX1_choose_51 (by decide) ?_
        have eN4 : (b4.1 ||| (1 <<< (((u2 b4.2 5 i (sp_X1_firstBest b4.2 (nI i) b4.1)).2.1 5 i) &&& 31)), u2 b4.2 5 i (sp_X1_firstBest b4.2 (nI i) b4.1)) = st_X1_choose_4 M i (itN i (st_X1_choose_4 M) (0, M)) := by rw [← hg4]; unfold st_X1_choose_4; exact Eq.symm (if_neg c2)
        refine J.wk (ls' := [some (rf K 5), some (.int (b4.1 ||| (1 <<< (((u2 b4.2 5 i (sp_X1_firstBest b4.2 (nI i) b4.1)).2.1 5 i) &&& 31)))), some (.int (nI (i + 1)))]) ?_ (Eq.refl 3) (wk_s rfl (wk_s rfl (wk_s rfl wk_0)))
        exact ih4 hl4 (b4.1 ||| (1 <<< (((u2 b4.2 5 i (sp_X1_firstBest b4.2 (nI i) b4.1)).2.1 5 i) &&& 31)), u2 b4.2 5 i (sp_X1_firstBest b4.2 (nI i) b4.1)) eN4
  exact (lp4 0 (Nat.zero_le _) _ rfl).wk (Eq.refl 3) (wk_s rfl (wk_s rfl (wk_s rfl wk_0)))

def st_X1_weigh_56 (M : MT) (i : Nat) (b50 : MT) (i56 : Nat) (b56 : MT) : MT :=
  u2 b56 (13 + (tn (dn (tn (M.1 3 0 0)) i))) i56 (sp_X1_mostFrom b56 (dn (tn (M.1 3 0 0)) i) (nI i56))
def st_X1_weigh_50 (M : MT) (i : Nat) (b50 : MT) : MT :=
  itN (pw2 (M.1 3 1 0)) (st_X1_weigh_56 M i b50) b50
def st_X1_weigh_14 (M : MT) (i : Nat) (b14 : MT) : MT :=
  u2 b14 (13 + (tn (b14.1 3 0 0))) i 0
def sp_X1_weigh (M : MT) : MT :=
  (itN (tn (M.1 3 0 0)) (st_X1_weigh_50 M) (itN (pw2 (M.1 3 1 0)) (st_X1_weigh_14 M) M))
set_option maxRecDepth 20000 in
theorem c_X1_weigh {K : KT} {M : MT}   (hok3 : OKs M 3) : CM K 5 yX1_weigh cX1_weigh 4 none [rf K 5] M none (sp_X1_weigh M) := by
  refine CM.ofV (by decide) [some (rf K 5), none, none, none] rfl (Nat.le_of_ble_eq_true rfl) (Nat.le_of_ble_eq_true rfl) (fun G hG _ hret => ?_)
  obtain ⟨hwc3, hpc3, ⟨hcl3, hcm3⟩, hwi3, hda3, hle3, hk83, ha83, hW3, hP3⟩ := id hok3
  have hwl3 := bd_lt hwc3
  have hpl3 := bd_lt hpc3
  have hcl3l := bd_lt hcl3
  refine r_iconst (pc := 0) hG dX1_weigh_0 ic_1 ?_
  refine r_aload_n (pc := 1) hG dX1_weigh_1 rfl ?_
  refine gf_X1_draft (pc := 2)  hG dX1_weigh_2 tw_263 ?_
  refine gf_X5_personCount (pc := 5) (by omega) hG dX1_weigh_5 tw_174 ?_
  refine r_ishl (pc := 8) hG dX1_weigh_8 ?_
  refine r_iconst (pc := 9) hG dX1_weigh_9 ic_1 ?_
  refine r_isub (pc := 10) hG dX1_weigh_10 ?_
  refine r_istore_n (pc := 11) (ls' := [_, _, _, _]) hG dX1_weigh_11 rfl rfl ?_
  refine r_iconst (pc := 12) hG dX1_weigh_12 ic_0 ?_
  refine r_istore_n (pc := 13) (ls' := [_, _, _, _]) hG dX1_weigh_13 rfl rfl ?_
  have hpw := pow_le hpc3
  have lp14 : ∀ i, i ≤ (pw2 (M.1 3 1 0)) → ∀ b14 : MT, b14 = itN i (st_X1_weigh_14 M) M → J G K b14 14 [some (rf K 5), some (.int ((1 <<< ((M.1 3 1 0) &&& 31)) - 1)), some (.int (nI i)), none] [] := by
    refine up_ind (pw2 (M.1 3 1 0)) (fun i hi14 ih14 => ?_)
    intro b14 hg14
    have hq14 : b14.1 = M.1 := by subst hg14; exact itN_inv (fun m : MT => m.1 = M.1) i rfl (fun k m hk hm => by unfold st_X1_weigh_14; exact hm)
    have hw14 : bd (b14.1 3 0 0) 9 := by rw [hq14]; exact hwc3
    refine r_iload_n (pc := 14) hG dX1_weigh_14 rfl ?_
    refine r_iload_n (pc := 15) hG dX1_weigh_15 rfl ?_
    refine r_icmp_gt (pc := 16) (tgt := 40) hG dX1_weigh_16 (by decide) (fun c1 => ?_) (fun c1 => ?_)
    · have e14 : i = (pw2 (M.1 3 1 0)) := by rw [all_eq hpc3] at c1; have := (lt_nI (by omega) (by omega)).mp c1; omega
      subst hg14
      subst e14
      refine r_aload_n (pc := 40) hG dX1_weigh_40 rfl ?_
      refine gf_X1_draft (pc := 41)  hG dX1_weigh_41 tw_263 ?_
      refine gf_X5_windowCount (pc := 44) (by omega) hG dX1_weigh_44 tw_170 ?_
      refine r_iconst (pc := 47) hG dX1_weigh_47 ic_1 ?_
      refine r_isub (pc := 48) hG dX1_weigh_48 ?_
      refine r_istore_n (pc := 49) (ls' := [_, _, _, _]) hG dX1_weigh_49 rfl rfl ?_
      have lp50 : ∀ i, i ≤ (tn (M.1 3 0 0)) → ∀ b50 : MT, b50 = itN i (st_X1_weigh_50 M) (itN (pw2 (M.1 3 1 0)) (st_X1_weigh_14 M) M) → J G K b50 50 [some (rf K 5), some (.int ((1 <<< ((M.1 3 1 0) &&& 31)) - 1)), some (.int (dn (tn (M.1 3 0 0)) i)), none] [] := by
        refine up_ind (tn (M.1 3 0 0)) (fun i hi50 ih50 => ?_)
        intro b50 hg50
        have hq50 : b50.1 = M.1 := by subst hg50; exact itN_inv (fun m : MT => m.1 = M.1) i hq14 (fun k m hk hm => by unfold st_X1_weigh_50; exact itN_inv (fun m : MT => m.1 = M.1) _ hm (fun k2 m2 hk2 hm2 => by unfold st_X1_weigh_56; exact hm2))
        refine r_iload_n (pc := 50) hG dX1_weigh_50 rfl ?_
        refine r_if_lt (pc := 51) (tgt := 87) hG dX1_weigh_51 (by decide) (fun c2 => ?_) (fun c2 => ?_)
        · have e50 : i = (tn (M.1 3 0 0)) := by have := (dn_neg (by omega)).mp c2; omega
          subst hg50
          subst e50
          exact hret _ _ _ dX1_weigh_87 (Eq.symm (by unfold sp_X1_weigh; exact rfl))
        · have hl50 : i < (tn (M.1 3 0 0)) := by have := mt (dn_neg (by omega)).mpr c2; omega
          refine r_iconst (pc := 54) hG dX1_weigh_54 ic_0 ?_
          refine r_istore_n (pc := 55) (ls' := [_, _, _, _]) hG dX1_weigh_55 rfl rfl ?_
          have lp56 : ∀ i56, i56 ≤ (pw2 (M.1 3 1 0)) → ∀ b56 : MT, b56 = itN i56 (st_X1_weigh_56 M i b50) b50 → J G K b56 56 [some (rf K 5), some (.int ((1 <<< ((M.1 3 1 0) &&& 31)) - 1)), some (.int (dn (tn (M.1 3 0 0)) i)), some (.int (nI i56))] [] := by
            refine up_ind (pw2 (M.1 3 1 0)) (fun i56 hi56 ih56 => ?_)
            intro b56 hg56
            have hq56 : b56.1 = M.1 := by subst hg56; exact itN_inv (fun m : MT => m.1 = M.1) i56 hq50 (fun k m hk hm => by unfold st_X1_weigh_56; exact hm)
            have hok56 : OKs b56 3 := by exact OKs_congr hok3 (by rw [hq56])
            refine r_iload_n (pc := 56) hG dX1_weigh_56 rfl ?_
            refine r_iload_n (pc := 57) hG dX1_weigh_57 rfl ?_
            refine r_icmp_gt (pc := 58) (tgt := 81) hG dX1_weigh_58 (by decide) (fun c3 => ?_) (fun c3 => ?_)
            · have e56 : i56 = (pw2 (M.1 3 1 0)) := by rw [all_eq hpc3] at c3; have := (lt_nI (by omega) (by omega)).mp c3; omega
              subst hg56
              subst e56
              refine r_iinc (pc := 81) (v := (dn (tn (M.1 3 0 0)) i) + (-1)) (ls' := [_, _, _, _]) hG dX1_weigh_81 rfl rfl rfl rfl ?_
              refine r_goto (pc := 84) (tgt := 50) hG dX1_weigh_84 (by decide) ?_
              have eN50 : itN (pw2 (M.1 3 1 0)) (st_X1_weigh_56 M i b50) b50 = st_X1_weigh_50 M i (itN i (st_X1_weigh_50 M) (itN (pw2 (M.1 3 1 0)) (st_X1_weigh_14 M) M)) := by rw [← hg50]; unfold st_X1_weigh_50; exact Eq.symm rfl
              refine J.wk (ls' := [some (rf K 5), some (.int ((1 <<< ((M.1 3 1 0) &&& 31)) - 1)), some (.int (dn (tn (M.1 3 0 0)) (i + 1))), none]) ?_ (Eq.refl 4) (wk_s rfl (wk_s rfl (wk_s (congrArg Value.int (dn_step hl50 (by omega))) (wk_n wk_0))))
              exact ih50 hl50 (itN (pw2 (M.1 3 1 0)) (st_X1_weigh_56 M i b50) b50) eN50
            · have hl56 : i56 < (pw2 (M.1 3 1 0)) := by rw [all_eq hpc3] at c3; have := mt (lt_nI (by omega) (by omega)).mpr c3; omega
              refine r_aload_n (pc := 61) hG dX1_weigh_61 rfl ?_
              refine gf_X1_best (pc := 62)  hG dX1_weigh_62 tw_265 ?_
              refine r_iload_n (pc := 65) hG dX1_weigh_65 rfl ?_
              refine aa_Bst (pc := 66)  hG dX1_weigh_66 (ix_bd (bd_mono (dn_bd (k := 8) hl50 (by omega) (Nat.le_of_ble_eq_true rfl)) (Nat.le_of_ble_eq_true rfl))) ?_
              refine r_iload_n (pc := 67) hG dX1_weigh_67 rfl ?_
              refine r_aload_n (pc := 68) hG dX1_weigh_68 rfl ?_
              refine r_iload_n (pc := 69) hG dX1_weigh_69 rfl ?_
              refine r_iload_n (pc := 70) hG dX1_weigh_70 rfl ?_
              refine cv_X1_mostFrom (pc := 71)  hG dX1_weigh_71 tw_834 (c_X1_mostFrom (dn_bd (k := 8) hl50 (by omega) (Nat.le_of_ble_eq_true rfl)) (bd_nI (by omega) (Nat.le_of_ble_eq_true rfl)) hok56) (by decide) (Nat.le_of_ble_eq_true rfl) ?_
              refine as_Bro (pc := 74) (bd_lt (bd_mono (dn_bd (k := 8) hl50 (by omega) (Nat.le_of_ble_eq_true rfl)) (Nat.le_of_ble_eq_true rfl))) hG dX1_weigh_74 (ix_nI (by omega) (Nat.le_of_ble_eq_true rfl)) ?_
              refine r_iinc (pc := 75) (v := nI (i56 + 1)) (ls' := [_, _, _, _]) hG dX1_weigh_75 rfl (nI_1 _) rfl rfl ?_
              refine r_goto (pc := 78) (tgt := 56) hG dX1_weigh_78 (by decide) ?_
              have eN56 : u2 b56 (13 + (tn (dn (tn (M.1 3 0 0)) i))) i56 (sp_X1_mostFrom b56 (dn (tn (M.1 3 0 0)) i) (nI i56)) = st_X1_weigh_56 M i b50 i56 (itN i56 (st_X1_weigh_56 M i b50) b50) := by rw [← hg56]; unfold st_X1_weigh_56; exact Eq.symm rfl
              refine J.wk (ls' := [some (rf K 5), some (.int ((1 <<< ((M.1 3 1 0) &&& 31)) - 1)), some (.int (dn (tn (M.1 3 0 0)) i)), some (.int (nI (i56 + 1)))]) ?_ (Eq.refl 4) (wk_s rfl (wk_s rfl (wk_s rfl (wk_s rfl wk_0))))
              exact ih56 hl56 (u2 b56 (13 + (tn (dn (tn (M.1 3 0 0)) i))) i56 (sp_X1_mostFrom b56 (dn (tn (M.1 3 0 0)) i) (nI i56))) eN56
          exact (lp56 0 (Nat.zero_le _) _ rfl).wk (Eq.refl 4) (wk_s rfl (wk_s rfl (wk_s rfl (wk_s rfl wk_0))))
      exact (lp50 0 (Nat.zero_le _) _ rfl).wk (Eq.refl 4) (wk_s rfl (wk_s rfl (wk_s (congrArg Value.int (dn_0 (k := 9) hw14 (Nat.le_of_ble_eq_true rfl) (by rw [hq14]))) (wk_n wk_0))))
    · have hl14 : i < (pw2 (M.1 3 1 0)) := by rw [all_eq hpc3] at c1; have := mt (lt_nI (by omega) (by omega)).mpr c1; omega
      refine r_aload_n (pc := 19) hG dX1_weigh_19 rfl ?_
      refine gf_X1_best (pc := 20)  hG dX1_weigh_20 tw_265 ?_
      refine r_aload_n (pc := 23) hG dX1_weigh_23 rfl ?_
      refine gf_X1_draft (pc := 24)  hG dX1_weigh_24 tw_263 ?_
      refine gf_X5_windowCount (pc := 27) (by omega) hG dX1_weigh_27 tw_170 ?_
      refine aa_Bst (pc := 30)  hG dX1_weigh_30 (ix_bd hw14) ?_
      refine r_iload_n (pc := 31) hG dX1_weigh_31 rfl ?_
      refine r_iconst (pc := 32) hG dX1_weigh_32 ic_0 ?_
      refine as_Bro (pc := 33) (bd_lt hw14) hG dX1_weigh_33 (ix_nI (by omega) (Nat.le_of_ble_eq_true rfl)) ?_
      refine r_iinc (pc := 34) (v := nI (i + 1)) (ls' := [_, _, _, _]) hG dX1_weigh_34 rfl (nI_1 _) rfl rfl ?_
      refine r_goto (pc := 37) (tgt := 14) hG dX1_weigh_37 (by decide) ?_
      have eN14 : u2 b14 (13 + (tn (b14.1 3 0 0))) i 0 = st_X1_weigh_14 M i (itN i (st_X1_weigh_14 M) M) := by rw [← hg14]; unfold st_X1_weigh_14; exact Eq.symm rfl
      refine J.wk (ls' := [some (rf K 5), some (.int ((1 <<< ((M.1 3 1 0) &&& 31)) - 1)), some (.int (nI (i + 1))), none]) ?_ (Eq.refl 4) (wk_s rfl (wk_s rfl (wk_s rfl (wk_n wk_0))))
      exact ih14 hl14 (u2 b14 (13 + (tn (b14.1 3 0 0))) i 0) eN14
  exact (lp14 0 (Nat.zero_le _) _ rfl).wk (Eq.refl 4) (wk_s rfl (wk_s rfl (wk_s rfl (wk_n wk_0))))

theorem weigh_1 {M : MT} : (sp_X1_weigh M).1 = M.1 := by
  unfold sp_X1_weigh
  exact itN_inv (fun m : MT => m.1 = M.1) _ (itN_inv (fun m : MT => m.1 = M.1) _ rfl (fun k m hk hm => by unfold st_X1_weigh_14; exact hm)) (fun k m hk hm => by unfold st_X1_weigh_50; exact itN_inv (fun m : MT => m.1 = M.1) _ hm (fun k2 m2 hk2 hm2 => by unfold st_X1_weigh_56; exact hm2))
theorem OKs_weigh {M : MT} {s : Nat} (h : OKs M s) : OKs (sp_X1_weigh M) s := OKs_congr h (by rw [weigh_1])

def st_X1_settle_41 (M : MT) (i : Nat) (b41 : MT) : MT :=
  u2 b41 4 i (sp_X5_peopleHit b41 3 (nI i))
def st_X1_settle_10 (M : MT) (i : Nat) (b10 : MT) : MT :=
  sp_X2_drop b10 3 i
def sp_X1_settle (M : MT) : MT :=
  (sp_X1_choose (sp_X1_weigh (itN (tn ((itN (tn ((cpM M 3 0).1 3 1 0)) (st_X1_settle_10 M) (cpM M 3 0)).1 3 0 0)) (st_X1_settle_41 M) (itN (tn ((cpM M 3 0).1 3 1 0)) (st_X1_settle_10 M) (cpM M 3 0)))))
set_option maxRecDepth 20000 in
theorem c_X1_settle {K : KT} {M : MT}   (hok0 : OKs M 0) (hoa3 : OKa M 3) : CM K 6 yX1_settle cX1_settle 3 none [rf K 5, rf K (iS 0)] M none (sp_X1_settle M) := by
  refine CM.ofV (by decide) [some (rf K 5), some (rf K (iS 0)), none] rfl (Nat.le_of_ble_eq_true rfl) (Nat.le_of_ble_eq_true rfl) (fun G hG _ hret => ?_)
  obtain ⟨hwc0, hpc0, ⟨hcl0, hcm0⟩, hwi0, hda0, hle0, hk80, ha80, hW0, hP0⟩ := id hok0
  have hwl0 := bd_lt hwc0
  have hpl0 := bd_lt hpc0
  have hcl0l := bd_lt hcl0
  have hokc : OKs (cpM M 3 0) 3 := OKs_copy2 (by decide) hok0 hoa3
  refine r_aload_n (pc := 0) hG dX1_settle_0 rfl ?_
  refine gf_X1_draft (pc := 1)  hG dX1_settle_1 tw_263 ?_
  refine r_aload_n (pc := 4) hG dX1_settle_4 rfl ?_
  refine cv_X5_copyFrom (pc := 5) (by omega) hG dX1_settle_5 tw_827 (c_X5_copyM (by omega) (by omega) (by decide) hok0) (by decide) (Nat.le_of_ble_eq_true rfl) ?_
  refine r_iconst (pc := 8) hG dX1_settle_8 ic_0 ?_
  refine r_istore_n (pc := 9) (ls' := [_, _, _]) hG dX1_settle_9 rfl rfl ?_
  have hpN := hokc.2.1
  have hpNl := bd_lt hpN
  have lp10 : ∀ i, i ≤ (tn ((cpM M 3 0).1 3 1 0)) → ∀ b10 : MT, b10 = itN i (st_X1_settle_10 M) (cpM M 3 0) → J G K b10 10 [some (rf K 5), some (rf K (iS 0)), some (.int (nI i))] [] := by
    refine up_ind (tn ((cpM M 3 0).1 3 1 0)) (fun i hi10 ih10 => ?_)
    intro b10 hg10
    have hok10 : OKs b10 3 ∧ b10.1 3 1 0 = (cpM M 3 0).1 3 1 0 := by subst hg10; exact itN_inv (fun m : MT => OKs m 3 ∧ m.1 3 1 0 = (cpM M 3 0).1 3 1 0) i ⟨hokc, rfl⟩ (fun k m hk hm => by unfold st_X1_settle_10; exact ⟨OKs_rd (Or.inl rfl) (Or.inl rfl) (fun _ => rfl) hm.1, hm.2⟩)
    refine r_iload_n (pc := 10) hG dX1_settle_10 rfl ?_
    refine r_aload_n (pc := 11) hG dX1_settle_11 rfl ?_
    refine gf_X1_draft (pc := 12)  hG dX1_settle_12 tw_263 ?_
    refine gf_X5_personCount (pc := 15) (by omega) hG dX1_settle_15 tw_174 ?_
    refine r_icmp_ge (pc := 18) (tgt := 39) hG dX1_settle_18 (by decide) (fun c1 => ?_) (fun c1 => ?_)
    · have e10 : i = (tn ((cpM M 3 0).1 3 1 0)) := by rw [hok10.2] at c1; have := (bd_le hpN (by omega)).mp c1; omega
      subst hg10
      subst e10
      refine r_iconst (pc := 39) hG dX1_settle_39 ic_0 ?_
      refine r_istore_n (pc := 40) (ls' := [_, _, _]) hG dX1_settle_40 rfl rfl ?_
      have hwN := hok10.1.1
      have hwNl := bd_lt hwN
      have lp41 : ∀ i, i ≤ (tn ((itN (tn ((cpM M 3 0).1 3 1 0)) (st_X1_settle_10 M) (cpM M 3 0)).1 3 0 0)) → ∀ b41 : MT, b41 = itN i (st_X1_settle_41 M) (itN (tn ((cpM M 3 0).1 3 1 0)) (st_X1_settle_10 M) (cpM M 3 0)) → J G K b41 41 [some (rf K 5), some (rf K (iS 0)), some (.int (nI i))] [] := by
        refine up_ind (tn ((itN (tn ((cpM M 3 0).1 3 1 0)) (st_X1_settle_10 M) (cpM M 3 0)).1 3 0 0)) (fun i hi41 ih41 => ?_)
        intro b41 hg41
        have hq41 : b41.1 = (itN (tn ((cpM M 3 0).1 3 1 0)) (st_X1_settle_10 M) (cpM M 3 0)).1 := by subst hg41; exact itN_inv (fun m : MT => m.1 = (itN (tn ((cpM M 3 0).1 3 1 0)) (st_X1_settle_10 M) (cpM M 3 0)).1) i rfl (fun k m hk hm => by unfold st_X1_settle_41; exact hm)
        have hok41 : OKs b41 3 := by exact OKs_congr hok10.1 (by rw [hq41])
        refine r_iload_n (pc := 41) hG dX1_settle_41 rfl ?_
        refine r_aload_n (pc := 42) hG dX1_settle_42 rfl ?_
        refine gf_X1_draft (pc := 43)  hG dX1_settle_43 tw_263 ?_
        refine gf_X5_windowCount (pc := 46) (by omega) hG dX1_settle_46 tw_170 ?_
        refine r_icmp_ge (pc := 49) (tgt := 72) hG dX1_settle_49 (by decide) (fun c2 => ?_) (fun c2 => ?_)
        · have e41 : i = (tn ((itN (tn ((cpM M 3 0).1 3 1 0)) (st_X1_settle_10 M) (cpM M 3 0)).1 3 0 0)) := by rw [hq41] at c2; have := (bd_le hwN (by omega)).mp c2; omega
          subst hg41
          subst e41
          refine r_aload_n (pc := 72) hG dX1_settle_72 rfl ?_
          refine cv_X1_weigh (pc := 73)  hG dX1_settle_73 tw_830 (c_X1_weigh hok41) (by decide) (Nat.le_of_ble_eq_true rfl) ?_
          refine r_aload_n (pc := 76) hG dX1_settle_76 rfl ?_
          refine cv_X1_choose (pc := 77)  hG dX1_settle_77 tw_846 (c_X1_choose (OKs_weigh hok41)) (by decide) (Nat.le_of_ble_eq_true rfl) ?_
          exact hret _ _ _ dX1_settle_80 (Eq.symm (by unfold sp_X1_settle; exact rfl))
        · have hl41 : i < (tn ((itN (tn ((cpM M 3 0).1 3 1 0)) (st_X1_settle_10 M) (cpM M 3 0)).1 3 0 0)) := by rw [hq41] at c2; have := mt (bd_le hwN (by omega)).mpr c2; omega
          refine r_aload_n (pc := 52) hG dX1_settle_52 rfl ?_
          refine gf_X1_hits (pc := 53)  hG dX1_settle_53 tw_264 ?_
          refine r_iload_n (pc := 56) hG dX1_settle_56 rfl ?_
          refine r_aload_n (pc := 57) hG dX1_settle_57 rfl ?_
          refine gf_X1_draft (pc := 58)  hG dX1_settle_58 tw_263 ?_
          refine r_iload_n (pc := 61) hG dX1_settle_61 rfl ?_
          refine cv_X5_peopleHit (pc := 62) (by omega) hG dX1_settle_62 tw_829 (c_X5_peopleHit (by omega) (bd_nI (by omega) (Nat.le_of_ble_eq_true rfl)) hok41) (by decide) (Nat.le_of_ble_eq_true rfl) ?_
          refine as_Hit (pc := 65)  hG dX1_settle_65 (ix_nI (by omega) (Nat.le_of_ble_eq_true rfl)) ?_
          refine r_iinc (pc := 66) (v := nI (i + 1)) (ls' := [_, _, _]) hG dX1_settle_66 rfl (nI_1 _) rfl rfl ?_
          refine r_goto (pc := 69) (tgt := 41) hG dX1_settle_69 (by decide) ?_
          have eN41 : u2 b41 4 i (sp_X5_peopleHit b41 3 (nI i)) = st_X1_settle_41 M i (itN i (st_X1_settle_41 M) (itN (tn ((cpM M 3 0).1 3 1 0)) (st_X1_settle_10 M) (cpM M 3 0))) := by rw [← hg41]; unfold st_X1_settle_41; exact Eq.symm rfl
          refine J.wk (ls' := [some (rf K 5), some (rf K (iS 0)), some (.int (nI (i + 1)))]) ?_ (Eq.refl 3) (wk_s rfl (wk_s rfl (wk_s rfl wk_0)))
          exact ih41 hl41 (u2 b41 4 i (sp_X5_peopleHit b41 3 (nI i))) eN41
      exact (lp41 0 (Nat.zero_le _) _ rfl).wk (Eq.refl 3) (wk_s rfl (wk_s rfl (wk_s rfl wk_0)))
    · have hl10 : i < (tn ((cpM M 3 0).1 3 1 0)) := by rw [hok10.2] at c1; have := mt (bd_le hpN (by omega)).mpr c1; omega
      refine r_aload_n (pc := 21) hG dX1_settle_21 rfl ?_
      refine gf_X1_draft (pc := 22)  hG dX1_settle_22 tw_263 ?_
      refine gf_X5_people (pc := 25) (by omega) hG dX1_settle_25 tw_165 ?_
      refine r_iload_n (pc := 28) hG dX1_settle_28 rfl ?_
      refine aa_PA (pc := 29) (by omega) hG dX1_settle_29 (ix_nI (by omega) (Nat.le_of_ble_eq_true rfl)) ?_
      refine cv_X2_drop (pc := 30) (by omega) (by omega) hG dX1_settle_30 tw_828 (c_X2_drop (by omega) (by omega)) (by decide) (Nat.le_of_ble_eq_true rfl) ?_
      refine r_iinc (pc := 33) (v := nI (i + 1)) (ls' := [_, _, _]) hG dX1_settle_33 rfl (nI_1 _) rfl rfl ?_
      refine r_goto (pc := 36) (tgt := 10) hG dX1_settle_36 (by decide) ?_
      have eN10 : sp_X2_drop b10 3 i = st_X1_settle_10 M i (itN i (st_X1_settle_10 M) (cpM M 3 0)) := by rw [← hg10]; unfold st_X1_settle_10; exact Eq.symm rfl
      refine J.wk (ls' := [some (rf K 5), some (rf K (iS 0)), some (.int (nI (i + 1)))]) ?_ (Eq.refl 3) (wk_s rfl (wk_s rfl (wk_s rfl wk_0)))
      exact ih10 hl10 (sp_X2_drop b10 3 i) eN10
  exact (lp10 0 (Nat.zero_le _) _ rfl).wk (Eq.refl 3) (wk_s rfl (wk_s rfl (wk_s rfl wk_0)))
