/-! pairs: all ways, tried one behind the other -/
abbrev TT : Type := MT → Int32 → Int32 → Int32 → MT
theorem tr_bd {a w : Int32} (hw : bd w 9) (ha : bd a 9) (hle : tn a ≤ tn w) (h : ¬ a = w) : bd a 8 := by
  have h1 := bd_lt hw
  have h2 := bd_eq hw
  have h3 := bd_eq ha
  have : ¬ tn a = tn w := fun q => h (by rw [h2, h3, q])
  rw [h3]
  exact bd_nI (by omega) (by omega)

def st_X9_tries_72 (M : MT) (T : TT) (a0 : Int32) (a1 : Int32) (a2 : Int32) (i : Nat) (b72 : MT) : MT :=
  if (((b72.2.1 38 (tn a0)) >>> ((nI i) &&& 31)) &&& 1) = 0 then
    b72
  else
    if ((a1 >>> ((nI i) &&& 31)) &&& 1) = 1 then
      b72
    else
      T (u2 b72 39 (tn a0) (nI i)) (a0 + 1) (a1 ||| (1 <<< ((nI i) &&& 31))) (a2 + (sp_X9_fondness (u2 b72 39 (tn a0) (nI i)) a0 (nI i)))
def st_X9_tries_25 (M : MT) (T : TT) (a0 : Int32) (a1 : Int32) (a2 : Int32) (i : Nat) (b25 : MT) : MT :=
  u2 b25 40 i (b25.2.1 39 i)
def sp_X9_tries (M : MT) (T : TT) (a0 : Int32) (a1 : Int32) (a2 : Int32) : MT :=
  if a0 = (M.1 5 0 0) then
    if (M.2.1 30 6) < a2 then
      (itN 8 (st_X9_tries_25 M T a0 a1 a2) (u2 M 30 6 a2))
    else
      M
  else
    (itN (tn (M.1 5 1 0)) (st_X9_tries_72 M T a0 a1 a2) (T (u2 M 39 (tn a0) (-1)) (a0 + 1) a1 a2))
set_option maxRecDepth 20000 in
theorem c_X9_tries0 {K : KT} {M : MT} {T : TT} {a0 : Int32} {a1 : Int32} {a2 : Int32}  (ha0b : bd (a0) 9) (hwc5 : bd (M.1 5 0 0) 9) (hpc5 : bd (M.1 5 1 0) 9) (hle : tn a0 ≤ tn (M.1 5 0 0)) {d : Nat} (hd2 : 2 ≤ d) (hT1 : ∀ X b c, X.1 = M.1 → (T X (a0 + 1) b c).1 = M.1) (hT : ∀ {X : MT} {b c : Int32}, X.1 = M.1 → ¬ a0 = M.1 5 0 0 → CM K d yX9_tries cX9_tries 5 none [rf K 140, .int (a0 + 1), .int b, .int c] X none (T X (a0 + 1) b c)) : CM K (d + 1) yX9_tries cX9_tries 5 none [rf K 140, .int a0, .int a1, .int a2] M none (sp_X9_tries M T a0 a1 a2) := by
  refine CM.ofV (by decide) [some (rf K 140), some (.int a0), some (.int a1), some (.int a2), none] rfl (Nat.le_of_ble_eq_true rfl) (Nat.le_of_ble_eq_true rfl) (fun G hG _ hret => ?_)
  have hwl5 := bd_lt hwc5
  have hpl5 := bd_lt hpc5
  refine r_iload_n (pc := 0) hG dX9_tries_0 rfl ?_
  refine r_aload_n (pc := 1) hG dX9_tries_1 rfl ?_
  refine gf_X9_windows (pc := 2)  hG dX9_tries_2 tw_1169 ?_
  refine r_icmp_ne (pc := 5) (tgt := 53) hG dX9_tries_5 (by decide) (fun c1 => ?_) (fun c1 => ?_)
  · refine r_aload_n (pc := 53) hG dX9_tries_53 rfl ?_
    refine gf_X9_tried (pc := 54)  hG dX9_tries_54 tw_1195 ?_
    refine r_iload_n (pc := 57) hG dX9_tries_57 rfl ?_
    refine r_iconst (pc := 58) hG dX9_tries_58 ic_m1 ?_
    refine as_Mtried (pc := 59)  hG dX9_tries_59 (ix_bd (tr_bd hwc5 ha0b hle c1)) ?_
    refine r_aload_n (pc := 60) hG dX9_tries_60 rfl ?_
    refine r_iload_n (pc := 61) hG dX9_tries_61 rfl ?_
    refine r_iconst (pc := 62) hG dX9_tries_62 ic_1 ?_
    refine r_iadd (pc := 63) hG dX9_tries_63 ?_
    refine r_iload_n (pc := 64) hG dX9_tries_64 rfl ?_
    refine r_iload_n (pc := 65) hG dX9_tries_65 rfl ?_
    refine cv_X9_tries (pc := 66)  hG dX9_tries_66 tw_1523 (hT rfl c1) (by omega) (Nat.le_of_ble_eq_true rfl) ?_
    refine r_iconst (pc := 69) hG dX9_tries_69 ic_0 ?_
    refine r_istore (pc := 70) (ls' := [_, _, _, _, _]) hG dX9_tries_70 rfl rfl ?_
    have lp72 : ∀ i, i ≤ (tn (M.1 5 1 0)) → ∀ b72 : MT, b72 = itN i (st_X9_tries_72 M T a0 a1 a2) (T (u2 M 39 (tn a0) (-1)) (a0 + 1) a1 a2) → J G K b72 72 [some (rf K 140), some (.int a0), some (.int a1), some (.int a2), some (.int (nI i))] [] := by
      refine up_ind (tn (M.1 5 1 0)) (fun i hi72 ih72 => ?_)
      intro b72 hg72
      have hq72 : b72.1 = M.1 := by subst hg72; exact itN_inv (fun x : MT => x.1 = M.1) i (hT1 _ _ _ rfl) (fun k m hk hm => by unfold st_X9_tries_72; (repeat' split) <;> first | exact hm | exact hT1 _ _ _ hm)
      refine r_iload (pc := 72) hG dX9_tries_72 rfl ?_
      refine r_aload_n (pc := 74) hG dX9_tries_74 rfl ?_
      refine gf_X9_people (pc := 75)  hG dX9_tries_75 tw_1173 ?_
      refine r_icmp_ge (pc := 78) (tgt := 144) hG dX9_tries_78 (by decide) (fun c2 => ?_) (fun c2 => ?_)
      · have e72 : i = (tn (M.1 5 1 0)) := by rw [hq72] at c2; have := (bd_le hpc5 (by omega)).mp c2; omega
        subst hg72
        subst e72
        exact hret _ _ _ dX9_tries_144 (Eq.symm (by unfold sp_X9_tries; exact (if_neg c1)))
      · have hl72 : i < (tn (M.1 5 1 0)) := by rw [hq72] at c2; have := mt (bd_le hpc5 (by omega)).mpr c2; omega
        refine r_aload_n (pc := 81) hG dX9_tries_81 rfl ?_
        refine gf_X9_hits (pc := 82)  hG dX9_tries_82 tw_1194 ?_
        refine r_iload_n (pc := 85) hG dX9_tries_85 rfl ?_
        refine al_Mhits (pc := 86)  hG dX9_tries_86 (ix_bd (tr_bd hwc5 ha0b hle c1)) ?_
        refine r_iload (pc := 87) hG dX9_tries_87 rfl ?_
        refine r_ishr (pc := 89) hG dX9_tries_89 ?_
        refine r_iconst (pc := 90) hG dX9_tries_90 ic_1 ?_
        refine r_iand (pc := 91) hG dX9_tries_91 ?_
        refine r_if_eq (pc := 92) (tgt := 138) hG dX9_tries_92 (by decide) (fun c3 => ?_) (fun c3 => ?_)
        · refine r_iinc (pc := 138) (v := nI (i + 1)) (ls' := [_, _, _, _, _]) hG dX9_tries_138 rfl (nI_1 _) rfl rfl ?_
          refine r_goto (pc := 141) (tgt := 72) hG dX9_tries_141 (by decide) ?_
          have eN72 : b72 = st_X9_tries_72 M T a0 a1 a2 i (itN i (st_X9_tries_72 M T a0 a1 a2) (T (u2 M 39 (tn a0) (-1)) (a0 + 1) a1 a2)) := by rw [← hg72]; unfold st_X9_tries_72; exact Eq.symm (if_pos c3)
          refine J.wk (ls' := [some (rf K 140), some (.int a0), some (.int a1), some (.int a2), some (.int (nI (i + 1)))]) ?_ (Eq.refl 5) (wk_s rfl (wk_s rfl (wk_s rfl (wk_s rfl (wk_s rfl wk_0)))))
          exact ih72 hl72 b72 eN72
        · refine r_iload_n (pc := 95) hG dX9_tries_95 rfl ?_
          refine r_iload (pc := 96) hG dX9_tries_96 rfl ?_
          refine r_ishr (pc := 98) hG dX9_tries_98 ?_
          refine r_iconst (pc := 99) hG dX9_tries_99 ic_1 ?_
          refine r_iand (pc := 100) hG dX9_tries_100 ?_
          refine r_iconst (pc := 101) hG dX9_tries_101 ic_1 ?_
          refine r_icmp_ne (pc := 102) (tgt := 108) hG dX9_tries_102 (by decide) (fun c4 => ?_) (fun c4 => ?_)
          · refine r_aload_n (pc := 108) hG dX9_tries_108 rfl ?_
            refine gf_X9_tried (pc := 109)  hG dX9_tries_109 tw_1195 ?_
            refine r_iload_n (pc := 112) hG dX9_tries_112 rfl ?_
            refine r_iload (pc := 113) hG dX9_tries_113 rfl ?_
            refine as_Mtried (pc := 115)  hG dX9_tries_115 (ix_bd (tr_bd hwc5 ha0b hle c1)) ?_
            refine r_aload_n (pc := 116) hG dX9_tries_116 rfl ?_
            refine r_iload_n (pc := 117) hG dX9_tries_117 rfl ?_
            refine r_iconst (pc := 118) hG dX9_tries_118 ic_1 ?_
            refine r_iadd (pc := 119) hG dX9_tries_119 ?_
            refine r_iload_n (pc := 120) hG dX9_tries_120 rfl ?_
            refine r_iconst (pc := 121) hG dX9_tries_121 ic_1 ?_
            refine r_iload (pc := 122) hG dX9_tries_122 rfl ?_
            refine r_ishl (pc := 124) hG dX9_tries_124 ?_
            refine r_ior (pc := 125) hG dX9_tries_125 ?_
            refine r_iload_n (pc := 126) hG dX9_tries_126 rfl ?_
            refine r_aload_n (pc := 127) hG dX9_tries_127 rfl ?_
            refine r_iload_n (pc := 128) hG dX9_tries_128 rfl ?_
            refine r_iload (pc := 129) hG dX9_tries_129 rfl ?_
            refine cv_X9_fondness (pc := 131)  hG dX9_tries_131 tw_1515 (c_X9_fondness (tr_bd hwc5 ha0b hle c1) (bd_nI (by omega) (Nat.le_of_ble_eq_true rfl))) (by omega) (Nat.le_of_ble_eq_true rfl) ?_
            refine r_iadd (pc := 134) hG dX9_tries_134 ?_
            refine cv_X9_tries (pc := 135)  hG dX9_tries_135 tw_1523 (hT hq72 c1) (by omega) (Nat.le_of_ble_eq_true rfl) ?_
            refine r_iinc (pc := 138) (v := nI (i + 1)) (ls' := [_, _, _, _, _]) hG dX9_tries_138 rfl (nI_1 _) rfl rfl ?_
            refine r_goto (pc := 141) (tgt := 72) hG dX9_tries_141 (by decide) ?_
            have eN72 : T (u2 b72 39 (tn a0) (nI i)) (a0 + 1) (a1 ||| (1 <<< ((nI i) &&& 31))) (a2 + (sp_X9_fondness (u2 b72 39 (tn a0) (nI i)) a0 (nI i))) = st_X9_tries_72 M T a0 a1 a2 i (itN i (st_X9_tries_72 M T a0 a1 a2) (T (u2 M 39 (tn a0) (-1)) (a0 + 1) a1 a2)) := by rw [← hg72]; unfold st_X9_tries_72; exact Eq.symm ((if_neg c3).trans (if_neg c4))
            refine J.wk (ls' := [some (rf K 140), some (.int a0), some (.int a1), some (.int a2), some (.int (nI (i + 1)))]) ?_ (Eq.refl 5) (wk_s rfl (wk_s rfl (wk_s rfl (wk_s rfl (wk_s rfl wk_0)))))
            exact ih72 hl72 (T (u2 b72 39 (tn a0) (nI i)) (a0 + 1) (a1 ||| (1 <<< ((nI i) &&& 31))) (a2 + (sp_X9_fondness (u2 b72 39 (tn a0) (nI i)) a0 (nI i)))) eN72
          · refine r_goto (pc := 105) (tgt := 138) hG dX9_tries_105 (by decide) ?_
            refine r_iinc (pc := 138) (v := nI (i + 1)) (ls' := [_, _, _, _, _]) hG dX9_tries_138 rfl (nI_1 _) rfl rfl ?_
            refine r_goto (pc := 141) (tgt := 72) hG dX9_tries_141 (by decide) ?_
            have eN72 : b72 = st_X9_tries_72 M T a0 a1 a2 i (itN i (st_X9_tries_72 M T a0 a1 a2) (T (u2 M 39 (tn a0) (-1)) (a0 + 1) a1 a2)) := by rw [← hg72]; unfold st_X9_tries_72; exact Eq.symm ((if_neg c3).trans (if_pos c4))
            refine J.wk (ls' := [some (rf K 140), some (.int a0), some (.int a1), some (.int a2), some (.int (nI (i + 1)))]) ?_ (Eq.refl 5) (wk_s rfl (wk_s rfl (wk_s rfl (wk_s rfl (wk_s rfl wk_0)))))
            exact ih72 hl72 b72 eN72
    exact (lp72 0 (Nat.zero_le _) _ rfl).wk (Eq.refl 5) (wk_s rfl (wk_s rfl (wk_s rfl (wk_s rfl (wk_s rfl wk_0)))))
  · refine r_iload_n (pc := 8) hG dX9_tries_8 rfl ?_
    refine r_aload_n (pc := 9) hG dX9_tries_9 rfl ?_
    refine gf_X9_most (pc := 10)  hG dX9_tries_10 tw_1197 ?_
    refine r_icmp_gt (pc := 13) (tgt := 17) hG dX9_tries_13 (by decide) (fun c5 => ?_) (fun c5 => ?_)
    · refine r_aload_n (pc := 17) hG dX9_tries_17 rfl ?_
      refine r_iload_n (pc := 18) hG dX9_tries_18 rfl ?_
      refine pf_X9_most (pc := 19)  hG dX9_tries_19 tw_1197 ?_
      refine r_iconst (pc := 22) hG dX9_tries_22 ic_0 ?_
      refine r_istore (pc := 23) (ls' := [_, _, _, _, _]) hG dX9_tries_23 rfl rfl ?_
      have lp25 : ∀ i, i ≤ 8 → ∀ b25 : MT, b25 = itN i (st_X9_tries_25 M T a0 a1 a2) (u2 M 30 6 a2) → J G K b25 25 [some (rf K 140), some (.int a0), some (.int a1), some (.int a2), some (.int (nI i))] [] := by
        refine up_ind 8 (fun i hi25 ih25 => ?_)
        intro b25 hg25
        refine r_iload (pc := 25) hG dX9_tries_25 rfl ?_
        refine r_bipush (pc := 27) hG dX9_tries_27 bc_8 ?_
        refine r_icmp_ge (pc := 29) (tgt := 52) hG dX9_tries_29 (by decide) (fun c6 => ?_) (fun c6 => ?_)
        · have e25 : i = 8 := by have := (le_nI (k := 8) (i := i) (Nat.le_of_ble_eq_true rfl) (by omega)).mp c6; omega
          subst hg25
          subst e25
          exact hret _ _ _ dX9_tries_52 (Eq.symm (by unfold sp_X9_tries; exact ((if_pos c1).trans (if_pos c5))))
        · have hl25 : i < 8 := by have := mt (le_nI (k := 8) (i := i) (Nat.le_of_ble_eq_true rfl) (by omega)).mpr c6; omega
          refine r_aload_n (pc := 32) hG dX9_tries_32 rfl ?_
          refine gf_X9_best (pc := 33)  hG dX9_tries_33 tw_1196 ?_
          refine r_iload (pc := 36) hG dX9_tries_36 rfl ?_
          refine r_aload_n (pc := 38) hG dX9_tries_38 rfl ?_
          refine gf_X9_tried (pc := 39)  hG dX9_tries_39 tw_1195 ?_
          refine r_iload (pc := 42) hG dX9_tries_42 rfl ?_
          refine al_Mtried (pc := 44)  hG dX9_tries_44 (ix_nI (by omega) (Nat.le_of_ble_eq_true rfl)) ?_
          refine as_Mbest (pc := 45)  hG dX9_tries_45 (ix_nI (by omega) (Nat.le_of_ble_eq_true rfl)) ?_
          refine r_iinc (pc := 46) (v := nI (i + 1)) (ls' := [_, _, _, _, _]) hG dX9_tries_46 rfl (nI_1 _) rfl rfl ?_
          refine r_goto (pc := 49) (tgt := 25) hG dX9_tries_49 (by decide) ?_
          have eN25 : u2 b25 40 i (b25.2.1 39 i) = st_X9_tries_25 M T a0 a1 a2 i (itN i (st_X9_tries_25 M T a0 a1 a2) (u2 M 30 6 a2)) := by rw [← hg25]; unfold st_X9_tries_25; exact Eq.symm rfl
          refine J.wk (ls' := [some (rf K 140), some (.int a0), some (.int a1), some (.int a2), some (.int (nI (i + 1)))]) ?_ (Eq.refl 5) (wk_s rfl (wk_s rfl (wk_s rfl (wk_s rfl (wk_s rfl wk_0)))))
          exact ih25 hl25 (u2 b25 40 i (b25.2.1 39 i)) eN25
      exact (lp25 0 (Nat.zero_le _) _ rfl).wk (Eq.refl 5) (wk_s rfl (wk_s rfl (wk_s rfl (wk_s rfl (wk_s rfl wk_0)))))
    · exact hret _ _ _ dX9_tries_16 (Eq.symm (by unfold sp_X9_tries; exact ((if_pos c1).trans (if_neg c5))))

def tryN : Nat → TT
  | 0 => fun M a b c => sp_X9_tries M (fun M _ _ _ => M) a b c
  | n + 1 => fun M a b c => sp_X9_tries M (tryN n) a b c
theorem tryN_1 : ∀ (n : Nat) (M : MT) (a b c : Int32), (tryN n M a b c).1 = M.1 := by
  have key : ∀ (T : TT) (M : MT) (a b c : Int32), (∀ X a b c, (T X a b c).1 = X.1) → (sp_X9_tries M T a b c).1 = M.1 := by
    intro T M a b c hT
    unfold sp_X9_tries
    split
    · split
      · exact itN_inv (fun x : MT => x.1 = M.1) 8 rfl (fun k m _ hm => by unfold st_X9_tries_25; exact hm)
      · rfl
    · exact itN_inv (fun x : MT => x.1 = M.1) _ (hT _ _ _ _) (fun k m _ hm => by unfold st_X9_tries_72; (repeat' split) <;> first | exact hm | exact (hT _ _ _ _).trans hm)
  intro n
  induction n with
  | zero => intro M a b c; exact key _ M a b c (fun _ _ _ _ => rfl)
  | succ n ih => intro M a b c; exact key _ M a b c (fun X a b c => ih X a b c)
theorem c_tryN {K : KT} : ∀ (n D : Nat) {M : MT} {a b c : Int32}, n + 2 ≤ D → bd a 9 → bd (M.1 5 0 0) 9 → bd (M.1 5 1 0) 9 → tn a + n = tn (M.1 5 0 0) → CM K (D + 1) yX9_tries cX9_tries 5 none [rf K 140, .int a, .int b, .int c] M none (tryN n M a b c) := by
  intro n
  induction n with
  | zero =>
    intro D M a b c hD ha hw hp e
    have e2 : a = M.1 5 0 0 := by rw [bd_eq ha, bd_eq hw]; congr 1
    rw [tryN.eq_1]
    exact c_X9_tries0 (d := D) (T := fun M _ _ _ => M) ha hw hp (by omega) (by omega) (fun X b c h => h) (fun _ h => absurd e2 h)
  | succ n ih =>
    intro D M a b c hD ha hw hp e
    have hl := bd_lt hw
    obtain ⟨D', rfl⟩ : ∃ D', D = D' + 1 := ⟨D - 1, by omega⟩
    rw [tryN.eq_2]
    refine c_X9_tries0 (d := D' + 1) (T := tryN n) ha hw hp (by omega) (by omega) (fun X b c h => (tryN_1 n X _ b c).trans h) (fun {X b c} h _ => ?_)
    have e3 : a + 1 = nI (tn a + 1) := (congrArg (fun z => z + 1) (bd_eq ha)).trans (nI_1 _)
    refine ih D' (by omega) ?_ (by rw [h]; exact hw) (by rw [h]; exact hp) ?_
    · rw [e3]; exact bd_nI (by omega) (by omega)
    · rw [e3, tn_nI (by omega), h]; omega
def tryT (M : MT) (a b c : Int32) : MT := tryN (tn (M.1 5 0 0)) M a b c
theorem c_tryT {K : KT} {M : MT} {b c : Int32} (hw : bd (M.1 5 0 0) 9) (hp : bd (M.1 5 1 0) 9) : CM K 11 yX9_tries cX9_tries 5 none [rf K 140, .int 0, .int b, .int c] M none (tryT M 0 b c) :=
  c_tryN (K := K) (tn (M.1 5 0 0)) 10 (a := 0) (b := b) (c := c) (by have := bd_lt hw; omega) (bd_lit (by decide)) hw hp (Nat.zero_add _)
theorem w21 {a : Int32} (h : sp_X9_within a (-2) (-1) = true) (h1 : ¬ a = -1) (h2 : ¬ a = -2) : bd a 8 := by
  have := within_iff.mp (w98 ▸ h)
  exfalso
  have g1 := Int32.le_iff_toInt_le.mp this.1
  have g2 := Int32.le_iff_toInt_le.mp this.2
  have e1 : (-1 : Int32).toInt = -1 := by decide
  have e2 : (-2 : Int32).toInt = -2 := by decide
  rw [e2] at g1
  rw [e1] at g2
  have n1 : ¬ a.toInt = -1 := fun q => h1 (Int32.toInt_inj.mp (by rw [q, e1]))
  have n2 : ¬ a.toInt = -2 := fun q => h2 (Int32.toInt_inj.mp (by rw [q, e2]))
  omega
theorem tryT_1 {M : MT} {a b c : Int32} : (tryT M a b c).1 = M.1 := tryN_1 _ _ _ _ _

theorem prW {M X : MT} (h : X.1 5 1 0 = M.1 5 1 0 ∧ X.1 5 0 0 = M.1 5 0 0) : (tryT (u2 X 30 6 (-1)) 0 0 0).1 5 1 0 = M.1 5 1 0 ∧ (tryT (u2 X 30 6 (-1)) 0 0 0).1 5 0 0 = M.1 5 0 0 := by
  rw [tryT_1]; exact h

def st_X9_pairs_87 (M : MT) (a0 : Int32) (i : Nat) (b87 : MT) : MT :=
  u1 b87 5 12 i (b87.2.1 37 i)
def st_X9_pairs_60 (M : MT) (a0 : Int32) (i : Nat) (b60 : MT) : MT :=
  u2 b60 38 i (sp_X9_hitFrom b60 (nI i))
def st_X9_pairs_27 (M : MT) (a0 : Int32) (i : Nat) (b27 : MT) : MT :=
  u1 (u2 b27 37 i (b27.1 5 12 i)) 5 12 i (-1)
def st_X9_pairs_150 (M : MT) (a0 : Int32) (i : Nat) (b150 : Int32) : Int32 :=
  if ((tryT (u2 (itN 8 (st_X9_pairs_87 M a0) (itN (tn (M.1 5 0 0)) (st_X9_pairs_60 M a0) (itN 8 (st_X9_pairs_27 M a0) M))) 30 6 (-1)) 0 0 0).2.1 40 i) = (-1) then
    b150
  else
    b150 + 1
def sp_X9_pairs (M : MT) (a0 : Int32) : Int32 × MT :=
  if (sp_X9_within a0 (-2) (-1)) = true then
    if a0 = (-1) then
      ((tryT (u2 (itN 8 (st_X9_pairs_87 M a0) (itN (tn (M.1 5 0 0)) (st_X9_pairs_60 M a0) (itN 8 (st_X9_pairs_27 M a0) M))) 30 6 (-1)) 0 0 0).2.1 30 6, tryT (u2 (itN 8 (st_X9_pairs_87 M a0) (itN (tn (M.1 5 0 0)) (st_X9_pairs_60 M a0) (itN 8 (st_X9_pairs_27 M a0) M))) 30 6 (-1)) 0 0 0)
    else
      if a0 = (-2) then
        (itN (tn ((tryT (u2 (itN 8 (st_X9_pairs_87 M a0) (itN (tn (M.1 5 0 0)) (st_X9_pairs_60 M a0) (itN 8 (st_X9_pairs_27 M a0) M))) 30 6 (-1)) 0 0 0).1 5 0 0)) (st_X9_pairs_150 M a0) 0, tryT (u2 (itN 8 (st_X9_pairs_87 M a0) (itN (tn (M.1 5 0 0)) (st_X9_pairs_60 M a0) (itN 8 (st_X9_pairs_27 M a0) M))) 30 6 (-1)) 0 0 0)
      else
        ((tryT (u2 (itN 8 (st_X9_pairs_87 M a0) (itN (tn (M.1 5 0 0)) (st_X9_pairs_60 M a0) (itN 8 (st_X9_pairs_27 M a0) M))) 30 6 (-1)) 0 0 0).2.1 40 (tn a0), tryT (u2 (itN 8 (st_X9_pairs_87 M a0) (itN (tn (M.1 5 0 0)) (st_X9_pairs_60 M a0) (itN 8 (st_X9_pairs_27 M a0) M))) 30 6 (-1)) 0 0 0)
  else
    if (sp_X9_isWindow M a0) = true then
      if a0 = (-1) then
        ((tryT (u2 (itN 8 (st_X9_pairs_87 M a0) (itN (tn (M.1 5 0 0)) (st_X9_pairs_60 M a0) (itN 8 (st_X9_pairs_27 M a0) M))) 30 6 (-1)) 0 0 0).2.1 30 6, tryT (u2 (itN 8 (st_X9_pairs_87 M a0) (itN (tn (M.1 5 0 0)) (st_X9_pairs_60 M a0) (itN 8 (st_X9_pairs_27 M a0) M))) 30 6 (-1)) 0 0 0)
      else
        if a0 = (-2) then
          (itN (tn ((tryT (u2 (itN 8 (st_X9_pairs_87 M a0) (itN (tn (M.1 5 0 0)) (st_X9_pairs_60 M a0) (itN 8 (st_X9_pairs_27 M a0) M))) 30 6 (-1)) 0 0 0).1 5 0 0)) (st_X9_pairs_150 M a0) 0, tryT (u2 (itN 8 (st_X9_pairs_87 M a0) (itN (tn (M.1 5 0 0)) (st_X9_pairs_60 M a0) (itN 8 (st_X9_pairs_27 M a0) M))) 30 6 (-1)) 0 0 0)
        else
          ((tryT (u2 (itN 8 (st_X9_pairs_87 M a0) (itN (tn (M.1 5 0 0)) (st_X9_pairs_60 M a0) (itN 8 (st_X9_pairs_27 M a0) M))) 30 6 (-1)) 0 0 0).2.1 40 (tn a0), tryT (u2 (itN 8 (st_X9_pairs_87 M a0) (itN (tn (M.1 5 0 0)) (st_X9_pairs_60 M a0) (itN 8 (st_X9_pairs_27 M a0) M))) 30 6 (-1)) 0 0 0)
    else
      ((sp_X9_no M (-2)).1, (sp_X9_no M (-2)).2)
set_option maxRecDepth 20000 in
theorem c_X9_pairs {K : KT} {M : MT} {a0 : Int32}  (hokr : OKR M) : CM K 12 yX9_pairs cX9_pairs 4 (some FieldType.int) [rf K 140, .int a0] M (some (.int (sp_X9_pairs M a0).1)) (sp_X9_pairs M a0).2 := by
  refine CM.ofI (by decide) [some (rf K 140), some (.int a0), none, none] rfl (Nat.le_of_ble_eq_true rfl) (Nat.le_of_ble_eq_true rfl) (fun G hG _ hret => ?_)
  obtain ⟨hok5, hhl, htp5⟩ := id hokr
  obtain ⟨hwc5, hpc5, ⟨hcl5, hcm5⟩, hwi5, hda5, hle5, hk85, ha85, hW5, hP5⟩ := id hok5
  have hwl5 := bd_lt hwc5
  have hpl5 := bd_lt hpc5
  have hcl5l := bd_lt hcl5
  refine r_iload_n (pc := 0) hG dX9_pairs_0 rfl ?_
  refine r_bipush (pc := 1) hG dX9_pairs_1 bc_m2 ?_
  refine r_iconst (pc := 3) hG dX9_pairs_3 ic_m1 ?_
  refine cs_X9_within (pc := 4)  hG dX9_pairs_4 tw_1270 (c_X9_within) (by decide) (Nat.le_of_ble_eq_true rfl) ?_
  refine r_ifz_ne (pc := 7) (tgt := 25) hG dX9_pairs_7 (by decide) (fun c1 => ?_) (fun c1 => ?_)
  · refine r_iconst (pc := 25) hG dX9_pairs_25 ic_0 ?_
    refine r_istore_n (pc := 26) (ls' := [_, _, _, _]) hG dX9_pairs_26 rfl rfl ?_
    have lp27 : ∀ i, i ≤ 8 → ∀ b27 : MT, b27 = itN i (st_X9_pairs_27 M a0) M → J G K b27 27 [some (rf K 140), some (.int a0), some (.int (nI i)), none] [] := by
      refine up_ind 8 (fun i hi27 ih27 => ?_)
      intro b27 hg27
      have hq27 : b27.1 5 1 0 = M.1 5 1 0 ∧ b27.1 5 0 0 = M.1 5 0 0 := by subst hg27; exact itN_inv (fun x : MT => x.1 5 1 0 = M.1 5 1 0 ∧ x.1 5 0 0 = M.1 5 0 0) i ⟨rfl, rfl⟩ (fun k m hk hm => by unfold st_X9_pairs_27; exact hm)
      have hp275 : bd (b27.1 5 1 0) 9 := by rw [hq27.1]; exact hpc5
      have hw275 : bd (b27.1 5 0 0) 9 := by rw [hq27.2]; exact hwc5
      refine r_iload_n (pc := 27) hG dX9_pairs_27 rfl ?_
      refine r_bipush (pc := 28) hG dX9_pairs_28 bc_8 ?_
      refine r_icmp_ge (pc := 30) (tgt := 58) hG dX9_pairs_30 (by decide) (fun c2 => ?_) (fun c2 => ?_)
      · have e27 : i = 8 := by have := (le_nI (k := 8) (i := i) (Nat.le_of_ble_eq_true rfl) (by omega)).mp c2; omega
        subst hg27
        subst e27
        refine r_iconst (pc := 58) hG dX9_pairs_58 ic_0 ?_
        refine r_istore_n (pc := 59) (ls' := [_, _, _, _]) hG dX9_pairs_59 rfl rfl ?_
        have lp60 : ∀ i, i ≤ (tn (M.1 5 0 0)) → ∀ b60 : MT, b60 = itN i (st_X9_pairs_60 M a0) (itN 8 (st_X9_pairs_27 M a0) M) → J G K b60 60 [some (rf K 140), some (.int a0), some (.int (nI i)), none] [] := by
          refine up_ind (tn (M.1 5 0 0)) (fun i hi60 ih60 => ?_)
          intro b60 hg60
          have hq60 : b60.1 5 1 0 = M.1 5 1 0 ∧ b60.1 5 0 0 = M.1 5 0 0 := by subst hg60; exact itN_inv (fun x : MT => x.1 5 1 0 = M.1 5 1 0 ∧ x.1 5 0 0 = M.1 5 0 0) i hq27 (fun k m hk hm => by unfold st_X9_pairs_60; exact hm)
          have hp605 : bd (b60.1 5 1 0) 9 := by rw [hq60.1]; exact hpc5
          have hw605 : bd (b60.1 5 0 0) 9 := by rw [hq60.2]; exact hwc5
          refine r_iload_n (pc := 60) hG dX9_pairs_60 rfl ?_
          refine r_aload_n (pc := 61) hG dX9_pairs_61 rfl ?_
          refine gf_X9_windows (pc := 62)  hG dX9_pairs_62 tw_1169 ?_
          refine r_icmp_ge (pc := 65) (tgt := 85) hG dX9_pairs_65 (by decide) (fun c3 => ?_) (fun c3 => ?_)
          · have e60 : i = (tn (M.1 5 0 0)) := by rw [hq60.2] at c3; have := (bd_le hwc5 (by omega)).mp c3; omega
            subst hg60
            subst e60
            refine r_iconst (pc := 85) hG dX9_pairs_85 ic_0 ?_
            refine r_istore_n (pc := 86) (ls' := [_, _, _, _]) hG dX9_pairs_86 rfl rfl ?_
            have lp87 : ∀ i, i ≤ 8 → ∀ b87 : MT, b87 = itN i (st_X9_pairs_87 M a0) (itN (tn (M.1 5 0 0)) (st_X9_pairs_60 M a0) (itN 8 (st_X9_pairs_27 M a0) M)) → J G K b87 87 [some (rf K 140), some (.int a0), some (.int (nI i)), none] [] := by
              refine up_ind 8 (fun i hi87 ih87 => ?_)
              intro b87 hg87
              have hq87 : b87.1 5 1 0 = M.1 5 1 0 ∧ b87.1 5 0 0 = M.1 5 0 0 := by subst hg87; exact itN_inv (fun x : MT => x.1 5 1 0 = M.1 5 1 0 ∧ x.1 5 0 0 = M.1 5 0 0) i hq60 (fun k m hk hm => by unfold st_X9_pairs_87; exact hm)
              have hp875 : bd (b87.1 5 1 0) 9 := by rw [hq87.1]; exact hpc5
              have hw875 : bd (b87.1 5 0 0) 9 := by rw [hq87.2]; exact hwc5
              refine r_iload_n (pc := 87) hG dX9_pairs_87 rfl ?_
              refine r_bipush (pc := 88) hG dX9_pairs_88 bc_8 ?_
              refine r_icmp_ge (pc := 90) (tgt := 111) hG dX9_pairs_90 (by decide) (fun c4 => ?_) (fun c4 => ?_)
              · have e87 : i = 8 := by have := (le_nI (k := 8) (i := i) (Nat.le_of_ble_eq_true rfl) (by omega)).mp c4; omega
                subst hg87
                subst e87
                refine r_aload_n (pc := 111) hG dX9_pairs_111 rfl ?_
                refine r_iconst (pc := 112) hG dX9_pairs_112 ic_m1 ?_
                refine pf_X9_most (pc := 113)  hG dX9_pairs_113 tw_1197 ?_
                refine r_aload_n (pc := 116) hG dX9_pairs_116 rfl ?_
                refine r_iconst (pc := 117) hG dX9_pairs_117 ic_0 ?_
                refine r_iconst (pc := 118) hG dX9_pairs_118 ic_0 ?_
                refine r_iconst (pc := 119) hG dX9_pairs_119 ic_0 ?_
                refine cv_X9_tries (pc := 120)  hG dX9_pairs_120 tw_1523 (c_tryT hw875 hp875) (by decide) (Nat.le_of_ble_eq_true rfl) ?_
                refine r_iload_n (pc := 123) hG dX9_pairs_123 rfl ?_
                refine r_iconst (pc := 124) hG dX9_pairs_124 ic_m1 ?_
                refine r_icmp_ne (pc := 125) (tgt := 133) hG dX9_pairs_125 (by decide) (fun c5 => ?_) (fun c5 => ?_)
                · refine r_iload_n (pc := 133) hG dX9_pairs_133 rfl ?_
                  refine r_bipush (pc := 134) hG dX9_pairs_134 bc_m2 ?_
                  refine r_icmp_eq (pc := 136) (tgt := 146) hG dX9_pairs_136 (by decide) (fun c6 => ?_) (fun c6 => ?_)
                  · refine r_iconst (pc := 146) hG dX9_pairs_146 ic_0 ?_
                    refine r_istore_n (pc := 147) (ls' := [_, _, _, _]) hG dX9_pairs_147 rfl rfl ?_
                    refine r_iconst (pc := 148) hG dX9_pairs_148 ic_0 ?_
                    refine r_istore_n (pc := 149) (ls' := [_, _, _, _]) hG dX9_pairs_149 rfl rfl ?_
                    have hb150 : bd ((tryT (u2 (itN 8 (st_X9_pairs_87 M a0) (itN (tn (M.1 5 0 0)) (st_X9_pairs_60 M a0) (itN 8 (st_X9_pairs_27 M a0) M))) 30 6 (-1)) 0 0 0).1 5 0 0) 9 := (by rw [(prW (M := M) hq87).2]; exact hwc5)
                    have hb150l := bd_lt hb150
                    have lp150 : ∀ i, i ≤ (tn ((tryT (u2 (itN 8 (st_X9_pairs_87 M a0) (itN (tn (M.1 5 0 0)) (st_X9_pairs_60 M a0) (itN 8 (st_X9_pairs_27 M a0) M))) 30 6 (-1)) 0 0 0).1 5 0 0)) → ∀ b150 : Int32, b150 = itN i (st_X9_pairs_150 M a0) 0 → J G K (tryT (u2 (itN 8 (st_X9_pairs_87 M a0) (itN (tn (M.1 5 0 0)) (st_X9_pairs_60 M a0) (itN 8 (st_X9_pairs_27 M a0) M))) 30 6 (-1)) 0 0 0) 150 [some (rf K 140), some (.int a0), some (.int b150), some (.int (nI i))] [] := by
                      refine up_ind (tn ((tryT (u2 (itN 8 (st_X9_pairs_87 M a0) (itN (tn (M.1 5 0 0)) (st_X9_pairs_60 M a0) (itN 8 (st_X9_pairs_27 M a0) M))) 30 6 (-1)) 0 0 0).1 5 0 0)) (fun i hi150 ih150 => ?_)
                      intro b150 hg150
                      refine r_iload_n (pc := 150) hG dX9_pairs_150 rfl ?_
                      refine r_aload_n (pc := 151) hG dX9_pairs_151 rfl ?_
                      refine gf_X9_windows (pc := 152)  hG dX9_pairs_152 tw_1169 ?_
                      refine r_icmp_ge (pc := 155) (tgt := 177) hG dX9_pairs_155 (by decide) (fun c7 => ?_) (fun c7 => ?_)
                      · have e150 : i = (tn ((tryT (u2 (itN 8 (st_X9_pairs_87 M a0) (itN (tn (M.1 5 0 0)) (st_X9_pairs_60 M a0) (itN 8 (st_X9_pairs_27 M a0) M))) 30 6 (-1)) 0 0 0).1 5 0 0)) := by have := (bd_le hb150 (by omega)).mp c7; omega
                        subst hg150
                        subst e150
                        refine r_iload_n (pc := 177) hG dX9_pairs_177 rfl ?_
                        exact hret _ _ _ _ dX9_pairs_178 (pair_fst (show sp_X9_pairs M a0 = (itN (tn ((tryT (u2 (itN 8 (st_X9_pairs_87 M a0) (itN (tn (M.1 5 0 0)) (st_X9_pairs_60 M a0) (itN 8 (st_X9_pairs_27 M a0) M))) 30 6 (-1)) 0 0 0).1 5 0 0)) (st_X9_pairs_150 M a0) 0, tryT (u2 (itN 8 (st_X9_pairs_87 M a0) (itN (tn (M.1 5 0 0)) (st_X9_pairs_60 M a0) (itN 8 (st_X9_pairs_27 M a0) M))) 30 6 (-1)) 0 0 0) from (by unfold sp_X9_pairs; exact ((if_pos c1).trans ((if_neg c5).trans (if_pos c6)))))) (pair_snd (show sp_X9_pairs M a0 = (itN (tn ((tryT (u2 (itN 8 (st_X9_pairs_87 M a0) (itN (tn (M.1 5 0 0)) (st_X9_pairs_60 M a0) (itN 8 (st_X9_pairs_27 M a0) M))) 30 6 (-1)) 0 0 0).1 5 0 0)) (st_X9_pairs_150 M a0) 0, tryT (u2 (itN 8 (st_X9_pairs_87 M a0) (itN (tn (M.1 5 0 0)) (st_X9_pairs_60 M a0) (itN 8 (st_X9_pairs_27 M a0) M))) 30 6 (-1)) 0 0 0) from (by unfold sp_X9_pairs; exact ((if_pos c1).trans ((if_neg c5).trans (if_pos c6))))))
                      · have hl150 : i < (tn ((tryT (u2 (itN 8 (st_X9_pairs_87 M a0) (itN (tn (M.1 5 0 0)) (st_X9_pairs_60 M a0) (itN 8 (st_X9_pairs_27 M a0) M))) 30 6 (-1)) 0 0 0).1 5 0 0)) := by have := mt (bd_le hb150 (by omega)).mpr c7; omega
                        refine r_aload_n (pc := 158) hG dX9_pairs_158 rfl ?_
                        refine gf_X9_best (pc := 159)  hG dX9_pairs_159 tw_1196 ?_
                        refine r_iload_n (pc := 162) hG dX9_pairs_162 rfl ?_
                        refine al_Mbest (pc := 163)  hG dX9_pairs_163 (ix_nI (by omega) (Nat.le_of_ble_eq_true rfl)) ?_
                        refine r_iconst (pc := 164) hG dX9_pairs_164 ic_m1 ?_
                        refine r_icmp_eq (pc := 165) (tgt := 171) hG dX9_pairs_165 (by decide) (fun c8 => ?_) (fun c8 => ?_)
                        · refine r_iinc (pc := 171) (v := nI (i + 1)) (ls' := [_, _, _, _]) hG dX9_pairs_171 rfl (nI_1 _) rfl rfl ?_
                          refine r_goto (pc := 174) (tgt := 150) hG dX9_pairs_174 (by decide) ?_
                          have eN150 : b150 = st_X9_pairs_150 M a0 i (itN i (st_X9_pairs_150 M a0) 0) := by rw [← hg150]; unfold st_X9_pairs_150; exact Eq.symm (if_pos c8)
                          refine J.wk (ls' := [some (rf K 140), some (.int a0), some (.int b150), some (.int (nI (i + 1)))]) ?_ (Eq.refl 4) (wk_s rfl (wk_s rfl (wk_s rfl (wk_s rfl wk_0))))
                          exact ih150 hl150 b150 eN150
                        · refine r_iinc (pc := 168) (v := b150 + 1) (ls' := [_, _, _, _]) hG dX9_pairs_168 rfl rfl rfl rfl ?_
                          refine r_iinc (pc := 171) (v := nI (i + 1)) (ls' := [_, _, _, _]) hG dX9_pairs_171 rfl (nI_1 _) rfl rfl ?_
                          refine r_goto (pc := 174) (tgt := 150) hG dX9_pairs_174 (by decide) ?_
                          have eN150 : b150 + 1 = st_X9_pairs_150 M a0 i (itN i (st_X9_pairs_150 M a0) 0) := by rw [← hg150]; unfold st_X9_pairs_150; exact Eq.symm (if_neg c8)
                          refine J.wk (ls' := [some (rf K 140), some (.int a0), some (.int (b150 + 1)), some (.int (nI (i + 1)))]) ?_ (Eq.refl 4) (wk_s rfl (wk_s rfl (wk_s rfl (wk_s rfl wk_0))))
                          exact ih150 hl150 (b150 + 1) eN150
                    exact (lp150 0 (Nat.zero_le _) _ rfl).wk (Eq.refl 4) (wk_s rfl (wk_s rfl (wk_s rfl (wk_s rfl wk_0))))
                  · refine r_aload_n (pc := 139) hG dX9_pairs_139 rfl ?_
                    refine gf_X9_best (pc := 140)  hG dX9_pairs_140 tw_1196 ?_
                    refine r_iload_n (pc := 143) hG dX9_pairs_143 rfl ?_
                    refine al_Mbest (pc := 144)  hG dX9_pairs_144 (ix_bd (w21 c1 c5 c6)) ?_
                    exact hret _ _ _ _ dX9_pairs_145 (pair_fst (show sp_X9_pairs M a0 = ((tryT (u2 (itN 8 (st_X9_pairs_87 M a0) (itN (tn (M.1 5 0 0)) (st_X9_pairs_60 M a0) (itN 8 (st_X9_pairs_27 M a0) M))) 30 6 (-1)) 0 0 0).2.1 40 (tn a0), tryT (u2 (itN 8 (st_X9_pairs_87 M a0) (itN (tn (M.1 5 0 0)) (st_X9_pairs_60 M a0) (itN 8 (st_X9_pairs_27 M a0) M))) 30 6 (-1)) 0 0 0) from (by unfold sp_X9_pairs; exact ((if_pos c1).trans ((if_neg c5).trans (if_neg c6)))))) (pair_snd (show sp_X9_pairs M a0 = ((tryT (u2 (itN 8 (st_X9_pairs_87 M a0) (itN (tn (M.1 5 0 0)) (st_X9_pairs_60 M a0) (itN 8 (st_X9_pairs_27 M a0) M))) 30 6 (-1)) 0 0 0).2.1 40 (tn a0), tryT (u2 (itN 8 (st_X9_pairs_87 M a0) (itN (tn (M.1 5 0 0)) (st_X9_pairs_60 M a0) (itN 8 (st_X9_pairs_27 M a0) M))) 30 6 (-1)) 0 0 0) from (by unfold sp_X9_pairs; exact ((if_pos c1).trans ((if_neg c5).trans (if_neg c6))))))
                · refine r_aload_n (pc := 128) hG dX9_pairs_128 rfl ?_
                  refine gf_X9_most (pc := 129)  hG dX9_pairs_129 tw_1197 ?_
                  exact hret _ _ _ _ dX9_pairs_132 (pair_fst (show sp_X9_pairs M a0 = ((tryT (u2 (itN 8 (st_X9_pairs_87 M a0) (itN (tn (M.1 5 0 0)) (st_X9_pairs_60 M a0) (itN 8 (st_X9_pairs_27 M a0) M))) 30 6 (-1)) 0 0 0).2.1 30 6, tryT (u2 (itN 8 (st_X9_pairs_87 M a0) (itN (tn (M.1 5 0 0)) (st_X9_pairs_60 M a0) (itN 8 (st_X9_pairs_27 M a0) M))) 30 6 (-1)) 0 0 0) from (by unfold sp_X9_pairs; exact ((if_pos c1).trans (if_pos c5))))) (pair_snd (show sp_X9_pairs M a0 = ((tryT (u2 (itN 8 (st_X9_pairs_87 M a0) (itN (tn (M.1 5 0 0)) (st_X9_pairs_60 M a0) (itN 8 (st_X9_pairs_27 M a0) M))) 30 6 (-1)) 0 0 0).2.1 30 6, tryT (u2 (itN 8 (st_X9_pairs_87 M a0) (itN (tn (M.1 5 0 0)) (st_X9_pairs_60 M a0) (itN 8 (st_X9_pairs_27 M a0) M))) 30 6 (-1)) 0 0 0) from (by unfold sp_X9_pairs; exact ((if_pos c1).trans (if_pos c5)))))
              · have hl87 : i < 8 := by have := mt (le_nI (k := 8) (i := i) (Nat.le_of_ble_eq_true rfl) (by omega)).mpr c4; omega
                refine r_aload_n (pc := 93) hG dX9_pairs_93 rfl ?_
                refine gf_X9_rose (pc := 94)  hG dX9_pairs_94 tw_1177 ?_
                refine r_iload_n (pc := 97) hG dX9_pairs_97 rfl ?_
                refine r_aload_n (pc := 98) hG dX9_pairs_98 rfl ?_
                refine gf_X9_roses (pc := 99)  hG dX9_pairs_99 tw_1193 ?_
                refine r_iload_n (pc := 102) hG dX9_pairs_102 rfl ?_
                refine al_Mroses (pc := 103)  hG dX9_pairs_103 (ix_nI (by omega) (Nat.le_of_ble_eq_true rfl)) ?_
                refine as_Mrose (pc := 104)  hG dX9_pairs_104 (ix_nI (by omega) (Nat.le_of_ble_eq_true rfl)) ?_
                refine r_iinc (pc := 105) (v := nI (i + 1)) (ls' := [_, _, _, _]) hG dX9_pairs_105 rfl (nI_1 _) rfl rfl ?_
                refine r_goto (pc := 108) (tgt := 87) hG dX9_pairs_108 (by decide) ?_
                have eN87 : u1 b87 5 12 i (b87.2.1 37 i) = st_X9_pairs_87 M a0 i (itN i (st_X9_pairs_87 M a0) (itN (tn (M.1 5 0 0)) (st_X9_pairs_60 M a0) (itN 8 (st_X9_pairs_27 M a0) M))) := by rw [← hg87]; unfold st_X9_pairs_87; exact Eq.symm rfl
                refine J.wk (ls' := [some (rf K 140), some (.int a0), some (.int (nI (i + 1))), none]) ?_ (Eq.refl 4) (wk_s rfl (wk_s rfl (wk_s rfl (wk_n wk_0))))
                exact ih87 hl87 (u1 b87 5 12 i (b87.2.1 37 i)) eN87
            exact (lp87 0 (Nat.zero_le _) _ rfl).wk (Eq.refl 4) (wk_s rfl (wk_s rfl (wk_s rfl (wk_n wk_0))))
          · have hl60 : i < (tn (M.1 5 0 0)) := by rw [hq60.2] at c3; have := mt (bd_le hwc5 (by omega)).mpr c3; omega
            refine r_aload_n (pc := 68) hG dX9_pairs_68 rfl ?_
            refine gf_X9_hits (pc := 69)  hG dX9_pairs_69 tw_1194 ?_
            refine r_iload_n (pc := 72) hG dX9_pairs_72 rfl ?_
            refine r_aload_n (pc := 73) hG dX9_pairs_73 rfl ?_
            refine r_iload_n (pc := 74) hG dX9_pairs_74 rfl ?_
            refine cv_X9_hitFrom (pc := 75)  hG dX9_pairs_75 tw_1487 (c_X9_hitFrom (bd_nI (by omega) (Nat.le_of_ble_eq_true rfl)) hp605) (by decide) (Nat.le_of_ble_eq_true rfl) ?_
            refine as_Mhits (pc := 78)  hG dX9_pairs_78 (ix_nI (by omega) (Nat.le_of_ble_eq_true rfl)) ?_
            refine r_iinc (pc := 79) (v := nI (i + 1)) (ls' := [_, _, _, _]) hG dX9_pairs_79 rfl (nI_1 _) rfl rfl ?_
            refine r_goto (pc := 82) (tgt := 60) hG dX9_pairs_82 (by decide) ?_
            have eN60 : u2 b60 38 i (sp_X9_hitFrom b60 (nI i)) = st_X9_pairs_60 M a0 i (itN i (st_X9_pairs_60 M a0) (itN 8 (st_X9_pairs_27 M a0) M)) := by rw [← hg60]; unfold st_X9_pairs_60; exact Eq.symm rfl
            refine J.wk (ls' := [some (rf K 140), some (.int a0), some (.int (nI (i + 1))), none]) ?_ (Eq.refl 4) (wk_s rfl (wk_s rfl (wk_s rfl (wk_n wk_0))))
            exact ih60 hl60 (u2 b60 38 i (sp_X9_hitFrom b60 (nI i))) eN60
        exact (lp60 0 (Nat.zero_le _) _ rfl).wk (Eq.refl 4) (wk_s rfl (wk_s rfl (wk_s rfl (wk_n wk_0))))
      · have hl27 : i < 8 := by have := mt (le_nI (k := 8) (i := i) (Nat.le_of_ble_eq_true rfl) (by omega)).mpr c2; omega
        refine r_aload_n (pc := 33) hG dX9_pairs_33 rfl ?_
        refine gf_X9_roses (pc := 34)  hG dX9_pairs_34 tw_1193 ?_
        refine r_iload_n (pc := 37) hG dX9_pairs_37 rfl ?_
        refine r_aload_n (pc := 38) hG dX9_pairs_38 rfl ?_
        refine gf_X9_rose (pc := 39)  hG dX9_pairs_39 tw_1177 ?_
        refine r_iload_n (pc := 42) hG dX9_pairs_42 rfl ?_
        refine al_Mrose (pc := 43)  hG dX9_pairs_43 (ix_nI (by omega) (Nat.le_of_ble_eq_true rfl)) ?_
        refine as_Mroses (pc := 44)  hG dX9_pairs_44 (ix_nI (by omega) (Nat.le_of_ble_eq_true rfl)) ?_
        refine r_aload_n (pc := 45) hG dX9_pairs_45 rfl ?_
        refine gf_X9_rose (pc := 46)  hG dX9_pairs_46 tw_1177 ?_
        refine r_iload_n (pc := 49) hG dX9_pairs_49 rfl ?_
        refine r_iconst (pc := 50) hG dX9_pairs_50 ic_m1 ?_
        refine as_Mrose (pc := 51)  hG dX9_pairs_51 (ix_nI (by omega) (Nat.le_of_ble_eq_true rfl)) ?_
        refine r_iinc (pc := 52) (v := nI (i + 1)) (ls' := [_, _, _, _]) hG dX9_pairs_52 rfl (nI_1 _) rfl rfl ?_
        refine r_goto (pc := 55) (tgt := 27) hG dX9_pairs_55 (by decide) ?_
        have eN27 : u1 (u2 b27 37 i (b27.1 5 12 i)) 5 12 i (-1) = st_X9_pairs_27 M a0 i (itN i (st_X9_pairs_27 M a0) M) := by rw [← hg27]; unfold st_X9_pairs_27; exact Eq.symm rfl
        refine J.wk (ls' := [some (rf K 140), some (.int a0), some (.int (nI (i + 1))), none]) ?_ (Eq.refl 4) (wk_s rfl (wk_s rfl (wk_s rfl (wk_n wk_0))))
        exact ih27 hl27 (u1 (u2 b27 37 i (b27.1 5 12 i)) 5 12 i (-1)) eN27
    exact (lp27 0 (Nat.zero_le _) _ rfl).wk (Eq.refl 4) (wk_s rfl (wk_s rfl (wk_s rfl (wk_n wk_0))))
  · refine r_aload_n (pc := 10) hG dX9_pairs_10 rfl ?_
    refine r_iload_n (pc := 11) hG dX9_pairs_11 rfl ?_
    refine cv_X9_isWindow (pc := 12)  hG dX9_pairs_12 tw_1430 (c_X9_isWindow) (by decide) (Nat.le_of_ble_eq_true rfl) ?_
    refine r_ifz_ne (pc := 15) (tgt := 25) hG dX9_pairs_15 (by decide) (fun c9 => ?_) (fun c9 => ?_)
    · refine r_iconst (pc := 25) hG dX9_pairs_25 ic_0 ?_
      refine r_istore_n (pc := 26) (ls' := [_, _, _, _]) hG dX9_pairs_26 rfl rfl ?_
      have lp27 : ∀ i, i ≤ 8 → ∀ b27 : MT, b27 = itN i (st_X9_pairs_27 M a0) M → J G K b27 27 [some (rf K 140), some (.int a0), some (.int (nI i)), none] [] := by
        refine up_ind 8 (fun i hi27 ih27 => ?_)
        intro b27 hg27
        have hq27 : b27.1 5 1 0 = M.1 5 1 0 ∧ b27.1 5 0 0 = M.1 5 0 0 := by subst hg27; exact itN_inv (fun x : MT => x.1 5 1 0 = M.1 5 1 0 ∧ x.1 5 0 0 = M.1 5 0 0) i ⟨rfl, rfl⟩ (fun k m hk hm => by unfold st_X9_pairs_27; exact hm)
        have hp275 : bd (b27.1 5 1 0) 9 := by rw [hq27.1]; exact hpc5
        have hw275 : bd (b27.1 5 0 0) 9 := by rw [hq27.2]; exact hwc5
        refine r_iload_n (pc := 27) hG dX9_pairs_27 rfl ?_
        refine r_bipush (pc := 28) hG dX9_pairs_28 bc_8 ?_
        refine r_icmp_ge (pc := 30) (tgt := 58) hG dX9_pairs_30 (by decide) (fun c10 => ?_) (fun c10 => ?_)
        · have e27 : i = 8 := by have := (le_nI (k := 8) (i := i) (Nat.le_of_ble_eq_true rfl) (by omega)).mp c10; omega
          subst hg27
          subst e27
          refine r_iconst (pc := 58) hG dX9_pairs_58 ic_0 ?_
          refine r_istore_n (pc := 59) (ls' := [_, _, _, _]) hG dX9_pairs_59 rfl rfl ?_
          have lp60 : ∀ i, i ≤ (tn (M.1 5 0 0)) → ∀ b60 : MT, b60 = itN i (st_X9_pairs_60 M a0) (itN 8 (st_X9_pairs_27 M a0) M) → J G K b60 60 [some (rf K 140), some (.int a0), some (.int (nI i)), none] [] := by
            refine up_ind (tn (M.1 5 0 0)) (fun i hi60 ih60 => ?_)
            intro b60 hg60
            have hq60 : b60.1 5 1 0 = M.1 5 1 0 ∧ b60.1 5 0 0 = M.1 5 0 0 := by subst hg60; exact itN_inv (fun x : MT => x.1 5 1 0 = M.1 5 1 0 ∧ x.1 5 0 0 = M.1 5 0 0) i hq27 (fun k m hk hm => by unfold st_X9_pairs_60; exact hm)
            have hp605 : bd (b60.1 5 1 0) 9 := by rw [hq60.1]; exact hpc5
            have hw605 : bd (b60.1 5 0 0) 9 := by rw [hq60.2]; exact hwc5
            refine r_iload_n (pc := 60) hG dX9_pairs_60 rfl ?_
            refine r_aload_n (pc := 61) hG dX9_pairs_61 rfl ?_
            refine gf_X9_windows (pc := 62)  hG dX9_pairs_62 tw_1169 ?_
            refine r_icmp_ge (pc := 65) (tgt := 85) hG dX9_pairs_65 (by decide) (fun c11 => ?_) (fun c11 => ?_)
            · have e60 : i = (tn (M.1 5 0 0)) := by rw [hq60.2] at c11; have := (bd_le hwc5 (by omega)).mp c11; omega
              subst hg60
              subst e60
              refine r_iconst (pc := 85) hG dX9_pairs_85 ic_0 ?_
              refine r_istore_n (pc := 86) (ls' := [_, _, _, _]) hG dX9_pairs_86 rfl rfl ?_
              have lp87 : ∀ i, i ≤ 8 → ∀ b87 : MT, b87 = itN i (st_X9_pairs_87 M a0) (itN (tn (M.1 5 0 0)) (st_X9_pairs_60 M a0) (itN 8 (st_X9_pairs_27 M a0) M)) → J G K b87 87 [some (rf K 140), some (.int a0), some (.int (nI i)), none] [] := by
                refine up_ind 8 (fun i hi87 ih87 => ?_)
                intro b87 hg87
                have hq87 : b87.1 5 1 0 = M.1 5 1 0 ∧ b87.1 5 0 0 = M.1 5 0 0 := by subst hg87; exact itN_inv (fun x : MT => x.1 5 1 0 = M.1 5 1 0 ∧ x.1 5 0 0 = M.1 5 0 0) i hq60 (fun k m hk hm => by unfold st_X9_pairs_87; exact hm)
                have hp875 : bd (b87.1 5 1 0) 9 := by rw [hq87.1]; exact hpc5
                have hw875 : bd (b87.1 5 0 0) 9 := by rw [hq87.2]; exact hwc5
                refine r_iload_n (pc := 87) hG dX9_pairs_87 rfl ?_
                refine r_bipush (pc := 88) hG dX9_pairs_88 bc_8 ?_
                refine r_icmp_ge (pc := 90) (tgt := 111) hG dX9_pairs_90 (by decide) (fun c12 => ?_) (fun c12 => ?_)
                · have e87 : i = 8 := by have := (le_nI (k := 8) (i := i) (Nat.le_of_ble_eq_true rfl) (by omega)).mp c12; omega
                  subst hg87
                  subst e87
                  refine r_aload_n (pc := 111) hG dX9_pairs_111 rfl ?_
                  refine r_iconst (pc := 112) hG dX9_pairs_112 ic_m1 ?_
                  refine pf_X9_most (pc := 113)  hG dX9_pairs_113 tw_1197 ?_
                  refine r_aload_n (pc := 116) hG dX9_pairs_116 rfl ?_
                  refine r_iconst (pc := 117) hG dX9_pairs_117 ic_0 ?_
                  refine r_iconst (pc := 118) hG dX9_pairs_118 ic_0 ?_
                  refine r_iconst (pc := 119) hG dX9_pairs_119 ic_0 ?_
                  refine cv_X9_tries (pc := 120)  hG dX9_pairs_120 tw_1523 (c_tryT hw875 hp875) (by decide) (Nat.le_of_ble_eq_true rfl) ?_
                  refine r_iload_n (pc := 123) hG dX9_pairs_123 rfl ?_
                  refine r_iconst (pc := 124) hG dX9_pairs_124 ic_m1 ?_
                  refine r_icmp_ne (pc := 125) (tgt := 133) hG dX9_pairs_125 (by decide) (fun c13 => ?_) (fun c13 => ?_)
                  · refine r_iload_n (pc := 133) hG dX9_pairs_133 rfl ?_
                    refine r_bipush (pc := 134) hG dX9_pairs_134 bc_m2 ?_
                    refine r_icmp_eq (pc := 136) (tgt := 146) hG dX9_pairs_136 (by decide) (fun c14 => ?_) (fun c14 => ?_)
                    · refine r_iconst (pc := 146) hG dX9_pairs_146 ic_0 ?_
                      refine r_istore_n (pc := 147) (ls' := [_, _, _, _]) hG dX9_pairs_147 rfl rfl ?_
                      refine r_iconst (pc := 148) hG dX9_pairs_148 ic_0 ?_
                      refine r_istore_n (pc := 149) (ls' := [_, _, _, _]) hG dX9_pairs_149 rfl rfl ?_
                      have hb150 : bd ((tryT (u2 (itN 8 (st_X9_pairs_87 M a0) (itN (tn (M.1 5 0 0)) (st_X9_pairs_60 M a0) (itN 8 (st_X9_pairs_27 M a0) M))) 30 6 (-1)) 0 0 0).1 5 0 0) 9 := (by rw [(prW (M := M) hq87).2]; exact hwc5)
                      have hb150l := bd_lt hb150
                      have lp150 : ∀ i, i ≤ (tn ((tryT (u2 (itN 8 (st_X9_pairs_87 M a0) (itN (tn (M.1 5 0 0)) (st_X9_pairs_60 M a0) (itN 8 (st_X9_pairs_27 M a0) M))) 30 6 (-1)) 0 0 0).1 5 0 0)) → ∀ b150 : Int32, b150 = itN i (st_X9_pairs_150 M a0) 0 → J G K (tryT (u2 (itN 8 (st_X9_pairs_87 M a0) (itN (tn (M.1 5 0 0)) (st_X9_pairs_60 M a0) (itN 8 (st_X9_pairs_27 M a0) M))) 30 6 (-1)) 0 0 0) 150 [some (rf K 140), some (.int a0), some (.int b150), some (.int (nI i))] [] := by
                        refine up_ind (tn ((tryT (u2 (itN 8 (st_X9_pairs_87 M a0) (itN (tn (M.1 5 0 0)) (st_X9_pairs_60 M a0) (itN 8 (st_X9_pairs_27 M a0) M))) 30 6 (-1)) 0 0 0).1 5 0 0)) (fun i hi150 ih150 => ?_)
                        intro b150 hg150
                        refine r_iload_n (pc := 150) hG dX9_pairs_150 rfl ?_
                        refine r_aload_n (pc := 151) hG dX9_pairs_151 rfl ?_
                        refine gf_X9_windows (pc := 152)  hG dX9_pairs_152 tw_1169 ?_
                        refine r_icmp_ge (pc := 155) (tgt := 177) hG dX9_pairs_155 (by decide) (fun c15 => ?_) (fun c15 => ?_)
                        · have e150 : i = (tn ((tryT (u2 (itN 8 (st_X9_pairs_87 M a0) (itN (tn (M.1 5 0 0)) (st_X9_pairs_60 M a0) (itN 8 (st_X9_pairs_27 M a0) M))) 30 6 (-1)) 0 0 0).1 5 0 0)) := by have := (bd_le hb150 (by omega)).mp c15; omega
                          subst hg150
                          subst e150
                          refine r_iload_n (pc := 177) hG dX9_pairs_177 rfl ?_
                          exact hret _ _ _ _ dX9_pairs_178 (pair_fst (show sp_X9_pairs M a0 = (itN (tn ((tryT (u2 (itN 8 (st_X9_pairs_87 M a0) (itN (tn (M.1 5 0 0)) (st_X9_pairs_60 M a0) (itN 8 (st_X9_pairs_27 M a0) M))) 30 6 (-1)) 0 0 0).1 5 0 0)) (st_X9_pairs_150 M a0) 0, tryT (u2 (itN 8 (st_X9_pairs_87 M a0) (itN (tn (M.1 5 0 0)) (st_X9_pairs_60 M a0) (itN 8 (st_X9_pairs_27 M a0) M))) 30 6 (-1)) 0 0 0) from (by unfold sp_X9_pairs; exact ((if_neg c1).trans ((if_pos c9).trans ((if_neg c13).trans (if_pos c14))))))) (pair_snd (show sp_X9_pairs M a0 = (itN (tn ((tryT (u2 (itN 8 (st_X9_pairs_87 M a0) (itN (tn (M.1 5 0 0)) (st_X9_pairs_60 M a0) (itN 8 (st_X9_pairs_27 M a0) M))) 30 6 (-1)) 0 0 0).1 5 0 0)) (st_X9_pairs_150 M a0) 0, tryT (u2 (itN 8 (st_X9_pairs_87 M a0) (itN (tn (M.1 5 0 0)) (st_X9_pairs_60 M a0) (itN 8 (st_X9_pairs_27 M a0) M))) 30 6 (-1)) 0 0 0) from (by unfold sp_X9_pairs; exact ((if_neg c1).trans ((if_pos c9).trans ((if_neg c13).trans (if_pos c14)))))))
                        · have hl150 : i < (tn ((tryT (u2 (itN 8 (st_X9_pairs_87 M a0) (itN (tn (M.1 5 0 0)) (st_X9_pairs_60 M a0) (itN 8 (st_X9_pairs_27 M a0) M))) 30 6 (-1)) 0 0 0).1 5 0 0)) := by have := mt (bd_le hb150 (by omega)).mpr c15; omega
                          refine r_aload_n (pc := 158) hG dX9_pairs_158 rfl ?_
                          refine gf_X9_best (pc := 159)  hG dX9_pairs_159 tw_1196 ?_
                          refine r_iload_n (pc := 162) hG dX9_pairs_162 rfl ?_
                          refine al_Mbest (pc := 163)  hG dX9_pairs_163 (ix_nI (by omega) (Nat.le_of_ble_eq_true rfl)) ?_
                          refine r_iconst (pc := 164) hG dX9_pairs_164 ic_m1 ?_
                          refine r_icmp_eq (pc := 165) (tgt := 171) hG dX9_pairs_165 (by decide) (fun c16 => ?_) (fun c16 => ?_)
                          · refine r_iinc (pc := 171) (v := nI (i + 1)) (ls' := [_, _, _, _]) hG dX9_pairs_171 rfl (nI_1 _) rfl rfl ?_
                            refine r_goto (pc := 174) (tgt := 150) hG dX9_pairs_174 (by decide) ?_
                            have eN150 : b150 = st_X9_pairs_150 M a0 i (itN i (st_X9_pairs_150 M a0) 0) := by rw [← hg150]; unfold st_X9_pairs_150; exact Eq.symm (if_pos c16)
                            refine J.wk (ls' := [some (rf K 140), some (.int a0), some (.int b150), some (.int (nI (i + 1)))]) ?_ (Eq.refl 4) (wk_s rfl (wk_s rfl (wk_s rfl (wk_s rfl wk_0))))
                            exact ih150 hl150 b150 eN150
                          · refine r_iinc (pc := 168) (v := b150 + 1) (ls' := [_, _, _, _]) hG dX9_pairs_168 rfl rfl rfl rfl ?_
                            refine r_iinc (pc := 171) (v := nI (i + 1)) (ls' := [_, _, _, _]) hG dX9_pairs_171 rfl (nI_1 _) rfl rfl ?_
                            refine r_goto (pc := 174) (tgt := 150) hG dX9_pairs_174 (by decide) ?_
                            have eN150 : b150 + 1 = st_X9_pairs_150 M a0 i (itN i (st_X9_pairs_150 M a0) 0) := by rw [← hg150]; unfold st_X9_pairs_150; exact Eq.symm (if_neg c16)
                            refine J.wk (ls' := [some (rf K 140), some (.int a0), some (.int (b150 + 1)), some (.int (nI (i + 1)))]) ?_ (Eq.refl 4) (wk_s rfl (wk_s rfl (wk_s rfl (wk_s rfl wk_0))))
                            exact ih150 hl150 (b150 + 1) eN150
                      exact (lp150 0 (Nat.zero_le _) _ rfl).wk (Eq.refl 4) (wk_s rfl (wk_s rfl (wk_s rfl (wk_s rfl wk_0))))
                    · refine r_aload_n (pc := 139) hG dX9_pairs_139 rfl ?_
                      refine gf_X9_best (pc := 140)  hG dX9_pairs_140 tw_1196 ?_
                      refine r_iload_n (pc := 143) hG dX9_pairs_143 rfl ?_
                      refine al_Mbest (pc := 144)  hG dX9_pairs_144 (ix_bd (hasW5 hwc5 c9)) ?_
                      exact hret _ _ _ _ dX9_pairs_145 (pair_fst (show sp_X9_pairs M a0 = ((tryT (u2 (itN 8 (st_X9_pairs_87 M a0) (itN (tn (M.1 5 0 0)) (st_X9_pairs_60 M a0) (itN 8 (st_X9_pairs_27 M a0) M))) 30 6 (-1)) 0 0 0).2.1 40 (tn a0), tryT (u2 (itN 8 (st_X9_pairs_87 M a0) (itN (tn (M.1 5 0 0)) (st_X9_pairs_60 M a0) (itN 8 (st_X9_pairs_27 M a0) M))) 30 6 (-1)) 0 0 0) from (by unfold sp_X9_pairs; exact ((if_neg c1).trans ((if_pos c9).trans ((if_neg c13).trans (if_neg c14))))))) (pair_snd (show sp_X9_pairs M a0 = ((tryT (u2 (itN 8 (st_X9_pairs_87 M a0) (itN (tn (M.1 5 0 0)) (st_X9_pairs_60 M a0) (itN 8 (st_X9_pairs_27 M a0) M))) 30 6 (-1)) 0 0 0).2.1 40 (tn a0), tryT (u2 (itN 8 (st_X9_pairs_87 M a0) (itN (tn (M.1 5 0 0)) (st_X9_pairs_60 M a0) (itN 8 (st_X9_pairs_27 M a0) M))) 30 6 (-1)) 0 0 0) from (by unfold sp_X9_pairs; exact ((if_neg c1).trans ((if_pos c9).trans ((if_neg c13).trans (if_neg c14)))))))
                  · refine r_aload_n (pc := 128) hG dX9_pairs_128 rfl ?_
                    refine gf_X9_most (pc := 129)  hG dX9_pairs_129 tw_1197 ?_
                    exact hret _ _ _ _ dX9_pairs_132 (pair_fst (show sp_X9_pairs M a0 = ((tryT (u2 (itN 8 (st_X9_pairs_87 M a0) (itN (tn (M.1 5 0 0)) (st_X9_pairs_60 M a0) (itN 8 (st_X9_pairs_27 M a0) M))) 30 6 (-1)) 0 0 0).2.1 30 6, tryT (u2 (itN 8 (st_X9_pairs_87 M a0) (itN (tn (M.1 5 0 0)) (st_X9_pairs_60 M a0) (itN 8 (st_X9_pairs_27 M a0) M))) 30 6 (-1)) 0 0 0) from (by unfold sp_X9_pairs; exact ((if_neg c1).trans ((if_pos c9).trans (if_pos c13)))))) (pair_snd (show sp_X9_pairs M a0 = ((tryT (u2 (itN 8 (st_X9_pairs_87 M a0) (itN (tn (M.1 5 0 0)) (st_X9_pairs_60 M a0) (itN 8 (st_X9_pairs_27 M a0) M))) 30 6 (-1)) 0 0 0).2.1 30 6, tryT (u2 (itN 8 (st_X9_pairs_87 M a0) (itN (tn (M.1 5 0 0)) (st_X9_pairs_60 M a0) (itN 8 (st_X9_pairs_27 M a0) M))) 30 6 (-1)) 0 0 0) from (by unfold sp_X9_pairs; exact ((if_neg c1).trans ((if_pos c9).trans (if_pos c13))))))
                · have hl87 : i < 8 := by have := mt (le_nI (k := 8) (i := i) (Nat.le_of_ble_eq_true rfl) (by omega)).mpr c12; omega
                  refine r_aload_n (pc := 93) hG dX9_pairs_93 rfl ?_
                  refine gf_X9_rose (pc := 94)  hG dX9_pairs_94 tw_1177 ?_
                  refine r_iload_n (pc := 97) hG dX9_pairs_97 rfl ?_
                  refine r_aload_n (pc := 98) hG dX9_pairs_98 rfl ?_
                  refine gf_X9_roses (pc := 99)  hG dX9_pairs_99 tw_1193 ?_
                  refine r_iload_n (pc := 102) hG dX9_pairs_102 rfl ?_
                  refine al_Mroses (pc := 103)  hG dX9_pairs_103 (ix_nI (by omega) (Nat.le_of_ble_eq_true rfl)) ?_
                  refine as_Mrose (pc := 104)  hG dX9_pairs_104 (ix_nI (by omega) (Nat.le_of_ble_eq_true rfl)) ?_
                  refine r_iinc (pc := 105) (v := nI (i + 1)) (ls' := [_, _, _, _]) hG dX9_pairs_105 rfl (nI_1 _) rfl rfl ?_
                  refine r_goto (pc := 108) (tgt := 87) hG dX9_pairs_108 (by decide) ?_
                  have eN87 : u1 b87 5 12 i (b87.2.1 37 i) = st_X9_pairs_87 M a0 i (itN i (st_X9_pairs_87 M a0) (itN (tn (M.1 5 0 0)) (st_X9_pairs_60 M a0) (itN 8 (st_X9_pairs_27 M a0) M))) := by rw [← hg87]; unfold st_X9_pairs_87; exact Eq.symm rfl
                  refine J.wk (ls' := [some (rf K 140), some (.int a0), some (.int (nI (i + 1))), none]) ?_ (Eq.refl 4) (wk_s rfl (wk_s rfl (wk_s rfl (wk_n wk_0))))
                  exact ih87 hl87 (u1 b87 5 12 i (b87.2.1 37 i)) eN87
              exact (lp87 0 (Nat.zero_le _) _ rfl).wk (Eq.refl 4) (wk_s rfl (wk_s rfl (wk_s rfl (wk_n wk_0))))
            · have hl60 : i < (tn (M.1 5 0 0)) := by rw [hq60.2] at c11; have := mt (bd_le hwc5 (by omega)).mpr c11; omega
              refine r_aload_n (pc := 68) hG dX9_pairs_68 rfl ?_
              refine gf_X9_hits (pc := 69)  hG dX9_pairs_69 tw_1194 ?_
              refine r_iload_n (pc := 72) hG dX9_pairs_72 rfl ?_
              refine r_aload_n (pc := 73) hG dX9_pairs_73 rfl ?_
              refine r_iload_n (pc := 74) hG dX9_pairs_74 rfl ?_
              refine cv_X9_hitFrom (pc := 75)  hG dX9_pairs_75 tw_1487 (c_X9_hitFrom (bd_nI (by omega) (Nat.le_of_ble_eq_true rfl)) hp605) (by decide) (Nat.le_of_ble_eq_true rfl) ?_
              refine as_Mhits (pc := 78)  hG dX9_pairs_78 (ix_nI (by omega) (Nat.le_of_ble_eq_true rfl)) ?_
              refine r_iinc (pc := 79) (v := nI (i + 1)) (ls' := [_, _, _, _]) hG dX9_pairs_79 rfl (nI_1 _) rfl rfl ?_
              refine r_goto (pc := 82) (tgt := 60) hG dX9_pairs_82 (by decide) ?_
              have eN60 : u2 b60 38 i (sp_X9_hitFrom b60 (nI i)) = st_X9_pairs_60 M a0 i (itN i (st_X9_pairs_60 M a0) (itN 8 (st_X9_pairs_27 M a0) M)) := by rw [← hg60]; unfold st_X9_pairs_60; exact Eq.symm rfl
              refine J.wk (ls' := [some (rf K 140), some (.int a0), some (.int (nI (i + 1))), none]) ?_ (Eq.refl 4) (wk_s rfl (wk_s rfl (wk_s rfl (wk_n wk_0))))
              exact ih60 hl60 (u2 b60 38 i (sp_X9_hitFrom b60 (nI i))) eN60
          exact (lp60 0 (Nat.zero_le _) _ rfl).wk (Eq.refl 4) (wk_s rfl (wk_s rfl (wk_s rfl (wk_n wk_0))))
        · have hl27 : i < 8 := by have := mt (le_nI (k := 8) (i := i) (Nat.le_of_ble_eq_true rfl) (by omega)).mpr c10; omega
          refine r_aload_n (pc := 33) hG dX9_pairs_33 rfl ?_
          refine gf_X9_roses (pc := 34)  hG dX9_pairs_34 tw_1193 ?_
          refine r_iload_n (pc := 37) hG dX9_pairs_37 rfl ?_
          refine r_aload_n (pc := 38) hG dX9_pairs_38 rfl ?_
          refine gf_X9_rose (pc := 39)  hG dX9_pairs_39 tw_1177 ?_
          refine r_iload_n (pc := 42) hG dX9_pairs_42 rfl ?_
          refine al_Mrose (pc := 43)  hG dX9_pairs_43 (ix_nI (by omega) (Nat.le_of_ble_eq_true rfl)) ?_
          refine as_Mroses (pc := 44)  hG dX9_pairs_44 (ix_nI (by omega) (Nat.le_of_ble_eq_true rfl)) ?_
          refine r_aload_n (pc := 45) hG dX9_pairs_45 rfl ?_
          refine gf_X9_rose (pc := 46)  hG dX9_pairs_46 tw_1177 ?_
          refine r_iload_n (pc := 49) hG dX9_pairs_49 rfl ?_
          refine r_iconst (pc := 50) hG dX9_pairs_50 ic_m1 ?_
          refine as_Mrose (pc := 51)  hG dX9_pairs_51 (ix_nI (by omega) (Nat.le_of_ble_eq_true rfl)) ?_
          refine r_iinc (pc := 52) (v := nI (i + 1)) (ls' := [_, _, _, _]) hG dX9_pairs_52 rfl (nI_1 _) rfl rfl ?_
          refine r_goto (pc := 55) (tgt := 27) hG dX9_pairs_55 (by decide) ?_
          have eN27 : u1 (u2 b27 37 i (b27.1 5 12 i)) 5 12 i (-1) = st_X9_pairs_27 M a0 i (itN i (st_X9_pairs_27 M a0) M) := by rw [← hg27]; unfold st_X9_pairs_27; exact Eq.symm rfl
          refine J.wk (ls' := [some (rf K 140), some (.int a0), some (.int (nI (i + 1))), none]) ?_ (Eq.refl 4) (wk_s rfl (wk_s rfl (wk_s rfl (wk_n wk_0))))
          exact ih27 hl27 (u1 (u2 b27 37 i (b27.1 5 12 i)) 5 12 i (-1)) eN27
      exact (lp27 0 (Nat.zero_le _) _ rfl).wk (Eq.refl 4) (wk_s rfl (wk_s rfl (wk_s rfl (wk_n wk_0))))
    · refine r_aload_n (pc := 18) hG dX9_pairs_18 rfl ?_
      refine r_bipush (pc := 19) hG dX9_pairs_19 bc_m2 ?_
      refine cv_X9_no (pc := 21)  hG dX9_pairs_21 tw_1273 (c_X9_no (bd_lit (n := 7) (by decide))) (by decide) (Nat.le_of_ble_eq_true rfl) ?_
      exact hret _ _ _ _ dX9_pairs_24 (pair_fst (show sp_X9_pairs M a0 = ((sp_X9_no M (-2)).1, (sp_X9_no M (-2)).2) from (by unfold sp_X9_pairs; exact ((if_neg c1).trans (if_neg c9))))) (pair_snd (show sp_X9_pairs M a0 = ((sp_X9_no M (-2)).1, (sp_X9_no M (-2)).2) from (by unfold sp_X9_pairs; exact ((if_neg c1).trans (if_neg c9)))))
