/-! what the whole object keeps to -/
def OKX (M : MT) : Prop := OKs M 0 ∧ OKs M 1 ∧ OKa M 2 ∧ OKa M 3 ∧ OKa M 4 ∧
  (∀ t, t < 8 → bd (M.2.1 12 t) 41 ∧ bd (M.2.1 11 t) 5 ∧ (M.2.1 9 t = 0 ∨ M.2.1 9 t = 1) ∧ (M.2.1 10 t = -1 ∨ (M.2.1 9 t = 0 ∧ bd (M.2.1 10 t) 8 ∧ tn (M.2.1 10 t) < tn (M.1 0 1 0)))) ∧ bd (M.2.1 6 0) 251
theorem lw_bd {M : MT} {s : Nat} (h : bd (M.1 s 1 0) 9) (hn : ¬ sp_X5_longestWaiter M s = -1) : bd (sp_X5_longestWaiter M s) 8 := by
  have hl := bd_lt h
  have := itN_inv (f := st_X5_longestWaiter_4 M s) (b := -1) (fun x => x = -1 ∨ bd x 8) (tn (M.1 s 1 0)) (Or.inl rfl) (fun k b hk hb => by unfold st_X5_longestWaiter_4; (repeat' split) <;> first | exact hb | exact Or.inr (bd_nI (by omega) (Nat.le_of_ble_eq_true rfl)))
  exact this.resolve_left hn
theorem feed_bd {M : MT} (h : bd (M.2.1 6 0) 251) (q : ¬ 250 ≤ M.2.1 6 0) : bd (M.2.1 6 0) 250 := by
  have hl := bd_lt h
  rw [bd_eq h] at q ⊢
  have : ¬ 250 ≤ tn (M.2.1 6 0) := fun z => q (nI_le z (by omega))
  exact bd_nI (by omega) (by omega)
theorem st_bd {a : Int32} (h1 : 12 ≤ a) (h2 : a ≤ 16) : bd (a - 10) 7 := by
  have g1 := Int32.le_iff_toInt_le.mp h1
  have g2 := Int32.le_iff_toInt_le.mp h2
  have e1 : (12 : Int32).toInt = 12 := by decide
  have e2 : (16 : Int32).toInt = 16 := by decide
  rw [e1] at g1; rw [e2] at g2
  have e : a = nI a.toInt.toNat := by
    apply Int32.toInt_inj.mp
    rw [nI_toInt (by omega)]
    omega
  have hb : a.toInt.toNat < 17 := by omega
  have hc : 12 ≤ a.toInt.toNat := by omega
  generalize a.toInt.toNat = k at e hb hc
  subst e
  exact bd_lit ((by decide +kernel : ∀ k, k < 17 → 12 ≤ k → (decide (nI k - 10 < 0) == false && Nat.blt (nI k - 10).toNatClampNeg 7) = true) k hb hc)
theorem ph_bd {M : MT} {s : Nat} {a : Int32} (h : bd (M.1 s 1 0) 9) : bd (sp_X5_peopleHit M s a) 256 := by
  have hl := bd_lt h
  unfold sp_X5_peopleHit
  exact itN_inv (fun x => bd x 256) _ (show bd 0 256 from bd_lit (by decide)) (fun k b hk hb => by unfold st_X5_peopleHit_11; (repeat' split) <;> first | exact hb | exact tk_bd hb (bd_nI (by omega) (by omega)))
theorem bc_tab : ∀ k, k < 256 → (decide (sp_J6_bitCount_0f7a4 (nI k) < 0) == false && Nat.blt (sp_J6_bitCount_0f7a4 (nI k)).toNatClampNeg 9) = true := by decide +kernel
theorem bc_bd {x : Int32} (h : bd x 256) : bd (sp_J6_bitCount_0f7a4 x) 9 := by
  have := bc_tab _ (bd_lt h)
  rw [← bd_eq h] at this
  exact bd_lit this
theorem bw_bd {M : MT} {s : Nat} (h : bd (M.1 s 0 0) 9) (h1 : bd (M.1 s 1 0) 9) (hn : ¬ M.1 s 0 0 = 0) : bd (sp_X5_bestWindow M s) 8 := by
  have hl := bd_lt h
  have h0 : 0 < tn (M.1 s 0 0) := by
    rcases Nat.eq_zero_or_pos (tn (M.1 s 0 0)) with z | z
    · exact absurd (by rw [bd_eq h, z]; rfl) hn
    · exact z
  have key : ∀ n, n ≤ tn (M.1 s 0 0) → ((itN n (st_X5_bestWindow_6 M s) ((-1), (-1))).1 = -1 ∧ n = 0 ∧ (itN n (st_X5_bestWindow_6 M s) ((-1), (-1))).2 = -1) ∨ bd (itN n (st_X5_bestWindow_6 M s) ((-1), (-1))).1 8 := by
    intro n
    induction n with
    | zero => intro _; exact Or.inl ⟨rfl, rfl, rfl⟩
    | succ n ih =>
      intro hn
      refine Or.inr ?_
      show bd (st_X5_bestWindow_6 M s n (itN n (st_X5_bestWindow_6 M s) ((-1), (-1)))).1 8
      have ih := ih (by omega)
      generalize itN n (st_X5_bestWindow_6 M s) ((-1), (-1)) = b at ih ⊢
      unfold st_X5_bestWindow_6
      split
      · rename_i q
        rcases ih with z | z
        · exfalso
          rw [z.2.2] at q
          have g := bc_bd (ph_bd (M := M) (s := s) (a := nI n) h1)
          exact absurd (Int32.lt_of_le_of_lt q (by decide)) g.1
        · exact z
      · exact bd_nI (by omega) (by omega)
  rcases key _ (Nat.le_refl _) with z | z
  · omega
  · exact z
theorem choose_1 {M : MT} : (sp_X1_choose M).1 = M.1 := by
  unfold sp_X1_choose
  exact itN_inv (fun x : Int32 × MT => x.2.1 = M.1) _ rfl (fun k m hk hm => by unfold st_X1_choose_4; (repeat' split) <;> exact hm)
theorem settle_v {M : MT} : (sp_X1_settle M).1 3 0 0 = M.1 0 0 0 := by
  unfold sp_X1_settle
  rw [choose_1, weigh_1]
  generalize hX : (itN (tn ((cpM M 3 0).1 3 1 0)) (st_X1_settle_10 M) (cpM M 3 0)) = X
  have e : X.1 3 0 0 = M.1 0 0 0 := by
    rw [← hX]
    exact itN_inv (fun m : MT => m.1 3 0 0 = M.1 0 0 0) _ (by simp [cpM, cpV]) (fun k m hk hm => by unfold st_X1_settle_10; simp [sp_X2_drop, u1, hm])
  rw [← e]
  exact congrFun (congrFun (congrFun (itN_inv (fun m : MT => m.1 = X.1) (tn (X.1 3 0 0)) rfl (fun k m hk hm => by unfold st_X1_settle_41; exact hm)) 3) 0) 0
theorem settle_wc {M : MT} (h : OKs M 0) : bd ((sp_X1_settle M).1 3 0 0) 9 := by rw [settle_v]; exact h.1
theorem fndN_cases {β : Type} {P : Nat → Bool} {A : Nat → β} {B : β} : ∀ (n i : Nat), (fndN P A B n i = B ∧ ∀ k, i ≤ k → k < i + n → P k = false) ∨ ∃ j, i ≤ j ∧ j < i + n ∧ P j = true ∧ (∀ k, i ≤ k → k < j → P k = false) ∧ fndN P A B n i = A j
  | 0, i => Or.inl ⟨rfl, fun k h1 h2 => by omega⟩
  | n + 1, i => by
    unfold fndN
    by_cases h : P i = true
    · rw [if_pos h]
      exact Or.inr ⟨i, Nat.le_refl _, by omega, h, fun k h1 h2 => by omega, rfl⟩
    · rw [if_neg h]
      have hf : P i = false := by cases hp : P i <;> simp_all
      rcases fndN_cases (P := P) (A := A) (B := B) n (i + 1) with ⟨h1, h2⟩ | ⟨j, h1, h2, h3, h4, h5⟩
      · exact Or.inl ⟨h1, fun k h3 h4 => by
          rcases Nat.eq_or_lt_of_le h3 with rfl | h5
          · exact hf
          · exact h2 k h5 (by omega)⟩
      · exact Or.inr ⟨j, by omega, by omega, h3, fun k h6 h7 => by
          rcases Nat.eq_or_lt_of_le h6 with rfl | h8
          · exact hf
          · exact h4 k h8 h7, h5⟩
theorem lN_of0 {x : Int64} (h0 : ¬ x < 0) : ∃ k, k < 9223372036854775808 ∧ x = lN k := by
  have h1 : (0 : Int) ≤ x.toInt := by
    have := Int64.not_lt.mp h0
    simpa using Int64.le_iff_toInt_le.mp this
  have h2 := x.toInt_lt
  refine ⟨x.toInt.toNat, by omega, ?_⟩
  apply Int64.toInt_inj.mp
  rw [show (lN x.toInt.toNat).toInt = ((x.toInt.toNat : Nat) : Int) from lg_ofNat_toInt (by omega)]
  omega
theorem wc_l {wc : Int32} (hw : bd wc 9) : Int32.toInt64 wc = lN (tn wc) := by
  conv => lhs; rw [bd_eq hw]
  exact nI_l (tn_small wc)
theorem told_k {x : Int64} {wc : Int32} (hw : bd wc 9) (h0 : ¬ x < 0) (h1 : ¬ (Int32.toInt64 wc) ≤ x / 100) : ∃ k, k < 800 ∧ x = lN k ∧ k / 100 < tn wc := by
  obtain ⟨k, hk, rfl⟩ := lN_of0 h0
  have hl := bd_lt hw
  rw [wc_l hw, show (lN k / 100 : Int64) = lN (k / 100) from pk_lDiv hk (by decide) (by decide)] at h1
  have : k / 100 < tn wc := by
    rcases Nat.lt_or_ge (k / 100) (tn wc) with z | z
    · exact z
    · exfalso
      apply h1
      apply Int64.le_iff_toInt_le.mpr
      rw [show (lN (tn wc)).toInt = ((tn wc : Nat) : Int) from lg_ofNat_toInt (by omega), show (lN (k / 100)).toInt = ((k / 100 : Nat) : Int) from lg_ofNat_toInt (by omega)]
      omega
  exact ⟨k, by omega, rfl, this⟩
theorem told_bd {x : Int64} {wc : Int32} (hw : bd wc 9) (h0 : ¬ x < 0) (h1 : ¬ (Int32.toInt64 wc) ≤ x / 100) : bd (Int64.toInt32 x / 100) 8 := by
  obtain ⟨k, hk, rfl, h⟩ := told_k hw h0 h1
  have hl := bd_lt hw
  rw [lN_i, show (nI k / 100 : Int32) = nI (k / 100) from pk_div (by omega) (by decide) (by decide)]
  exact bd_nI (by omega) (by omega)
theorem isT_bd {M : MT} {s : Nat} {x : Int64} (hw : bd (M.1 s 0 0) 9) (q : sp_X5_isToldThrow M s x = true) : bd (Int64.toInt32 x / 100) 8 := by
  unfold sp_X5_isToldThrow at q
  split at q
  · cases q
  · rename_i h0
    split at q
    · cases q
    · rename_i h1
      exact told_bd hw h0 h1
theorem fw_none {M : MT} {s t : Nat} {a b : Int32} (h : bd (M.1 s 0 0) 9) (ha : bd a 41) (q : sp_X5_firstWrong M s t a b = -1) : ∀ i, i < tn a → bd ((Int64.toInt32 (M.2.2 t (tn (nI i * b)))) / 100) 8 := by
  intro i hi
  have hl := bd_lt ha
  unfold sp_X5_firstWrong at q
  rcases fndN_cases (P := ps_X5_firstWrong_3 M s t a b) (A := fun i => (if (sp_X5_isToldThrow M s (M.2.2 t (tn ((nI i) * b)))) = true then (-1) else nI i)) (B := (-1)) (tn a) 0 with ⟨_, h2⟩ | ⟨j, h1, h2, h3, h4, h5⟩
  · have := h2 i (Nat.zero_le _) (by omega)
    unfold ps_X5_firstWrong_3 at this
    split at this
    · rename_i z; exact isT_bd h z
    · cases this
  · exfalso
    rw [h5] at q
    unfold ps_X5_firstWrong_3 at h3
    split at h3
    · cases h3
    · rename_i z
      rw [if_neg z] at q
      have := Int32.toInt_inj.mpr q
      rw [nI_toInt (by omega)] at this
      have e : (-1 : Int32).toInt = -1 := by decide
      rw [e] at this
      omega
theorem tw_true {M : MT} {s t : Nat} {a : Int32} (h : bd (M.1 s 0 0) 9) (q : sp_X5_tellsOfWindows M s t a = true) : ∀ i, i < tn a → bd (Int64.toInt32 (M.2.2 t (tn (2 * nI i)))) 8 := by
  intro i hi
  have hl := bd_lt h
  unfold sp_X5_tellsOfWindows at q
  rcases fndN_cases (P := ps_X5_tellsOfWindows_2 M s t a) (A := fun i => (if (M.2.2 t (tn (2 * (nI i)))) < 0 then false else if (M.2.2 t (tn (2 * (nI i)))) < (Int32.toInt64 (M.1 s 0 0)) then true else false)) (B := true) (tn a) 0 with ⟨_, h2⟩ | ⟨j, h1, h2, h3, h4, h5⟩
  · have := h2 i (Nat.zero_le _) (by omega)
    unfold ps_X5_tellsOfWindows_2 at this
    split at this
    · cases this
    · rename_i z
      split at this
      · rename_i z2
        obtain ⟨k, hk, e⟩ := lN_of0 z
        rw [e] at z2 ⊢
        rw [wc_l h] at z2
        have g := Int64.lt_iff_toInt_lt.mp z2
        rw [show (lN (tn (M.1 s 0 0))).toInt = ((tn (M.1 s 0 0) : Nat) : Int) from lg_ofNat_toInt (by omega), show (lN k).toInt = ((k : Nat) : Int) from lg_ofNat_toInt (by omega)] at g
        rw [lN_i]
        exact bd_nI (by omega) (by omega)
      · cases this
  · exfalso
    rw [h5] at q
    unfold ps_X5_tellsOfWindows_2 at h3
    split at h3
    · rename_i z; rw [if_pos z] at q; cases q
    · rename_i z
      split at h3
      · cases h3
      · rename_i z2; rw [if_neg z, if_neg z2] at q; cases q
theorem mul1_bd {a : Int32} (h : bd a 41) : ∀ i, i < tn a → bd (nI i * 1) 40 := by
  intro i hi
  have hl := bd_lt h
  rw [Int32.mul_one]
  exact bd_nI (by omega) (by omega)
theorem mul2_bd {a : Int32} (h : bd a 21) : ∀ i, i < tn a → bd (nI i * 2) 40 := by
  intro i hi
  have hl := bd_lt h
  rw [Int32.mul_comm]
  exact two_bd (n := 20) (by omega) (by omega)
theorem fw_none2 {M : MT} {s t : Nat} {a : Int32} (h : bd (M.1 s 0 0) 9) (ha : bd a 41) (q : sp_X5_firstWrong M s t a 2 = -1) : ∀ i, i < tn a → bd ((Int64.toInt32 (M.2.2 t (tn (2 * nI i)))) / 100) 8 := by
  intro i hi
  have := fw_none h ha q i hi
  rw [Int32.mul_comm] at this
  exact this
theorem fw_none1 {M : MT} {s t : Nat} {a : Int32} (h : bd (M.1 s 0 0) 9) (ha : bd a 41) (q : sp_X5_firstWrong M s t a 1 = -1) : ∀ i, i < tn a → bd ((Int64.toInt32 (M.2.2 t i)) / 100) 8 := by
  intro i hi
  have hl := bd_lt ha
  have := fw_none h ha q i hi
  rw [Int32.mul_one, tn_nI (by omega)] at this
  exact this
def cpyM (M : MT) (t t0 i j n : Nat) : MT := (M.1, M.2.1, fun a b => if a = t0 then va_cpy (M.2.2 t) (M.2.2 t0) i j n b else M.2.2 a b)
theorem J_acopy {G : GT} {K : KT} {M : MT} {own : String} {cc : ByteArray} {d pc : Nat} {ls : List (Option Value)} {st : List Value} {index t t0 : Nat} {i j n : Int32} (hG : GF G K own cc d) (hd : decode cc pc = .ok (.invokestatic index, 3)) (w1 : Cond.methodLink own index arraycopyName ∈ TW) (hd1 : 1 ≤ d) (ht : t < 8) (ht0 : t0 < 8) (h1 : ¬ i < 0) (h2 : ¬ j < 0) (h3 : ¬ n < 0) (h4 : tn i + tn n ≤ 40) (h5 : tn j + tn n ≤ 40) (hw : (st.map fun v => v.category).sum ≤ 8)
    (k : J G K (cpyM M t t0 (tn i) (tn j) (tn n)) (pc + 3) ls st) : J G K M pc ls (.int n :: .int j :: rf K (iE t0) :: .int i :: rf K (iE t) :: st) := by
  intro hn H locs lc hP hS hl
  refine va_copyl hG.1 hG.2.1 (hG.2.2.1.trans hl.1.symm) hG.2.2.2.1 (hG.2.2.2.2.1 _ w1) (hG.2.2.2.2.1 _ tw_425) (hG.2.2.2.2.1 _ tw_424) (hG.2.2.2.2.1 _ tw_83) hG.2.2.2.2.2.1 hP (wd_D hG.2.2.2.2.2.2.1 M) hS (iE t) (iE t0) 1 1 (wd_at K M (by unfold iE; omega) (at_Ele K M t ht)) (wd_at K M (by unfold iE; omega) (at_Ele K M t0 ht0)) rfl rfl rfl h1 h2 h3 h4 h5 (fun _ _ => rfl) (J_room1 hG hd1 hw).1 ?_ hd (fun H1 locs1 hP1 _ hS1 => ?_)
  · have := J_room1 hG hd1 hw
    have e : nativeFrameWords "java/lang/System" "arraycopy" 5 ≤ 16 := by decide
    omega
  · refine k hn H1 locs1 lc ?_ hS1 hl
    rw [← wd_set K M (cpyM M t t0 (tn i) (tn j) (tn n)) (k := iE t0) (e := .inl (K.2.1 1, 40, .inr (.inl (va_cpy (M.2.2 t) (M.2.2 t0) (tn i) (tn j) (tn n)))))]
    · exact hP1
    · intro q hq
      by_cases e : q = iE t0
      · subst e
        rw [if_pos rfl, at_Ele K _ t0 ht0]
        simp [cpyM]
      · rw [if_neg e]
        refine mem_dep (fun _ _ _ _ => rfl) (fun _ _ _ => rfl) (fun a b z => if_neg (fun z2 => e ?_))
        rw [← z, z2, own3_a ht0]
        rfl
theorem hasS {M : MT} {t : Nat} {a n : Int32} (h : bd (M.2.1 12 t) 41) (c : sp_X3_hasStretch M t a n = true) : ¬ a < 0 ∧ ¬ n < 0 ∧ tn a + tn n ≤ 40 := by
  have hl := bd_lt h
  unfold sp_X3_hasStretch at c
  split at c
  · cases c
  · rename_i h0
    split at c
    · cases c
    · rename_i h1
      split at c
      · cases c
      · rename_i h2
        split at c
        · cases c
        · rename_i h3
          obtain ⟨i, hi, rfl⟩ := nI_of h0
          obtain ⟨m, hm, rfl⟩ := nI_of h1
          rw [bd_eq h] at h2 h3
          have g2 : m ≤ tn (M.2.1 12 t) := by
            rcases Nat.lt_or_ge (tn (M.2.1 12 t)) m with z | z
            · exact absurd (nI_lt z hm) h2
            · exact z
          rw [pk_sub g2] at h3
          have g3 : i ≤ tn (M.2.1 12 t) - m := by
            rcases Nat.lt_or_ge (tn (M.2.1 12 t) - m) i with z | z
            · exact absurd (nI_lt z hi) h3
            · exact z
          rw [tn_nI hi, tn_nI hm]
          exact ⟨h0, h1, by omega⟩
theorem propose_1 {M : MT} {a b : Int32} : (sp_X0_propose M a b).1 = M.1 := by
  unfold sp_X0_propose; split <;> rfl
theorem propose_J {M : MT} {a b : Int32} : (sp_X0_propose M a b).2.2 = M.2.2 := by
  unfold sp_X0_propose; split <;> rfl
