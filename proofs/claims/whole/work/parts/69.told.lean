/-! ===== winds, kinds, bed, move ===== -/
theorem fndN_all {P : Nat → Bool} {F : Nat → Bool} {n : Nat} (hF : ∀ k, k < n → P k = true → F k = false) : fndN P F true n 0 = true ↔ ∀ k, k < n → P k = false := by
  rcases fndN_cases (P := P) (A := F) (B := true) n 0 with ⟨h1, h2⟩ | ⟨j, h1, h2, h3, h4, h5⟩
  · rw [h1]
    exact ⟨fun _ k hk => h2 k (Nat.zero_le _) (by omega), fun _ => rfl⟩
  · rw [h5, hF j (by omega) h3]
    constructor
    · intro z; cases z
    · intro z; rw [z j (by omega)] at h3; cases h3
/-- a flag that falls -/
theorem itN_flag {f : Nat → Int32 → Int32} {P : Nat → Bool} : ∀ n, (∀ k b, k < n → f k b = if P k = true then b else 0) → (¬ itN n f 1 = 0 ↔ ∀ k, k < n → P k = true)
  | 0, _ => ⟨fun _ k hk => absurd hk (Nat.not_lt_zero k), fun _ => by show ¬ (1 : Int32) = 0; decide⟩
  | n + 1, h => by
    have ih := itN_flag n (fun k b hk => h k b (by omega))
    show ¬ f n (itN n f 1) = 0 ↔ _
    rw [h n _ (by omega)]
    by_cases c : P n = true
    · rw [if_pos c, ih]
      exact ⟨fun z k hk => (Nat.lt_or_eq_of_le (Nat.le_of_lt_succ hk)).elim (z k) (fun q => by rw [q]; exact c), fun z k hk => z k (by omega)⟩
    · rw [if_neg c]
      exact ⟨fun z => absurd rfl z, fun z => absurd (z n (by omega)) c⟩
section Told
variable {A B : MT}
theorem two_ix {a : Int32} (ha : bd a 8) {i : Nat} (hi : i < 20) : tn ((40 * a) + (2 * nI i)) = 40 * tn a + 2 * i ∧ tn ((40 * a) + ((2 * nI i) + 1)) = 40 * tn a + (2 * i + 1) ∧ tn (2 * nI i) = 2 * i ∧ tn ((2 * nI i) + 1) = 2 * i + 1 := by
  have e : (2 : Int32) * nI i = nI (2 * i) := (Int32.ofNat_mul 2 i).symm
  rw [e, nI_1]
  exact ⟨ix40 ha (by omega), ix40 ha (by omega), tn_nI (by omega), tn_nI (by omega)⟩
/-- the elements of a row that is told by twos -/
theorem row_el2 (hx : OKX A) (hr : R2 A B) {a n : Int32} (hs : sp_X9_isShelf a = true) (h0 : sp_X8_rowRefusal A a (2 * n) = 0) (hn : bd n 21) : ∀ i, i < tn n → sp_X9_toldAt B a (2 * nI i) = A.2.2 (tn a) (tn (2 * nI i)) ∧ sp_X9_toldAt B a ((2 * nI i) + 1) = A.2.2 (tn a) (tn ((2 * nI i) + 1)) := by
  intro i hi
  have hnl := bd_lt hn
  have e2 : (2 : Int32) * n = nI (2 * tn n) := (congrArg (fun z => (2 : Int32) * z) (bd_eq hn)).trans (Int32.ofNat_mul 2 _).symm
  have hb : bd (2 * n) 41 := by rw [e2]; exact bd_nI (by omega) (by omega)
  have t2 : tn (2 * n) = 2 * tn n := by rw [e2, tn_nI (by omega)]
  have el := row_el hx hr hs h0 hb
  obtain ⟨i1, i2, i3, i4⟩ := two_ix (isSh5 hs) (show i < 20 by omega)
  unfold sp_X9_toldAt
  rw [i1, i2, i3, i4]
  exact ⟨el _ (by omega), el _ (by omega)⟩
theorem told_land {k wc : Nat} (h1 : k < 800) (h3 : k % 10 < 3) : ∃ w : Nat, w = k / 100 ∧ Int64.toInt32 (lN k) / 100 = nI w ∧ (irm (Int64.toInt32 (lN k)) 10 = 0 ∨ irm (Int64.toInt32 (lN k)) 10 = 1 ∨ irm (Int64.toInt32 (lN k)) 10 = 2) := by
  refine ⟨k / 100, rfl, ?_, ?_⟩
  · rw [lN_i]; exact pk_div (by omega) (by decide) (by decide)
  · rw [lN_i, show irm (nI k) 10 = nI (k % 10) from irm_nI (by omega) (by decide) (by decide)]
    rcases (show k % 10 = 0 ∨ k % 10 = 1 ∨ k % 10 = 2 by omega) with q | q | q <;> rw [q]
    · exact Or.inl rfl
    · exact Or.inr (Or.inl rfl)
    · exact Or.inr (Or.inr rfl)
/-- a told throw lands alike -/
theorem e_told {s : Nat} (h : AG (A.1 s) (B.1 5)) (hw : bd (B.1 5 0 0) 9) {x : Int64} (hq : sp_X9_isThrowTold B x = true) {B' : MT} (e0 : B'.1 5 0 0 = B.1 5 0 0) (h' : AG (A.1 s) (B'.1 5)) : sp_X5_landing A s ((Int64.toInt32 x) / 100) (irm ((Int64.toInt32 x) / 10) 10) (irm (Int64.toInt32 x) 10) = sp_X9_landingTold B' x := by
  obtain ⟨k, hk, rfl, h2, h3⟩ := isTT hw hq
  obtain ⟨w, hwk, e1, e2⟩ := told_land (wc := 0) hk h3
  unfold sp_X9_landingTold
  refine e_land h' ?_ e2
  rw [e1, tn_nI (by omega), h.wc, hwk]
  exact h2
theorem sim_winds (hx : OKX A) (hr : R2 A B) {a0 a1 : Int32} : SR (sp_X8_winds A a0 a1) (sp_X9_winds B a0 a1) := by
  have h := hr.1
  have ok := hx.1
  have hwB : bd (B.1 5 0 0) 9 := by rw [← h.wc]; exact ok.1
  unfold sp_X8_winds sp_X9_winds
  rw [← w98]
  by_cases c1 : sp_X9_within a1 0 20 = true
  · rw [if_pos c1]
    have hn := wi5_bd (n := 20) c1 rfl (by omega)
    have hnl := bd_lt hn
    by_cases c0 : sp_X9_isShelf a0 = true
    · have ha := isSh5 c0
      have e := e_noTold hx hr (n := 2 * a1) ha c0
      rw [if_pos c0, if_pos c1]
      by_cases c2 : sp_X8_rowRefusal A a0 (2 * a1) = 0
      · rw [if_pos c2, if_pos (show 0 ≤ sp_X9_noTold B a0 (2 * a1) by rw [← e]; exact told_0.mpr c2)]
        have el := row_el2 hx hr c0 c2 hn
        have ew : ∀ i, i < tn a1 → ps_X5_firstWrong_3 A 0 (tn a0) a1 2 i = ps_X9_winds_46 B a0 a1 i := by
          intro i hi
          unfold ps_X5_firstWrong_3 ps_X9_winds_46
          rw [(el i hi).1, e_isTold h ok.1, Int32.mul_comm (nI i) 2]
        rcases fndN_cases (P := ps_X9_winds_46 B a0 a1) (A := fun i => if ps_X9_winds_46 B a0 a1 i = true then nI i else (-1)) (B := (-1)) (tn a1) 0 with ⟨_, hN⟩ | ⟨j, _, hj, hP, hb, _⟩
        · have hN' : ∀ i, i < tn a1 → ps_X9_winds_46 B a0 a1 i = false := fun i hi => hN i (Nat.zero_le _) (by omega)
          have cf : sp_X5_firstWrong A 0 (tn a0) a1 2 = -1 := by
            unfold sp_X5_firstWrong
            exact fndN_none _ 0 (fun k _ hk => by rw [ew k (by omega)]; exact hN' k (by omega))
          rw [if_pos cf, fndN_none _ 0 (fun k _ hk => hN' k (by omega))]
          have hT : ∀ i, i < tn a1 → sp_X9_isThrowTold B (A.2.2 (tn a0) (tn (2 * nI i))) = true := by
            intro i hi
            have q := hN' i hi
            unfold ps_X9_winds_46 at q
            rw [(el i hi).1] at q
            split at q
            · assumption
            · cases q
          unfold sp_X0_windsThatFit
          have key := itN_rel (f := st_X0_windsThatFit_5 (cpM A 2 0) (tn a0) a1) (g := st_X9_winds_95 B a0 a1) (b := (0, cpM A 2 0)) (c := (0, B)) (fun _ x y => x.1 = y.1 ∧ WS 3 0 (cpM A 2 0) (B.1 5) x.2 ∧ RS 3 0 B y.2) 11 ⟨rfl, ws_start hx hr (by decide) (by decide), RS_refl⟩ (fun k x y hk hrr => by
            obtain ⟨h1, h2, h3⟩ := hrr
            have ag := WS_ag (v := nI k) h2
            have h4 := ws_wind h2 hk
            have hJ : x.2.2 = A.2 := h2.2.1
            have h5 : RS 3 0 B (u1 y.2 5 3 0 (nI k)) := RS_u h3
            have cond : sp_X0_landsAsTold (u1 x.2 2 3 0 (nI k)) (tn a0) a1 = true ↔ ¬ itN (tn a1) (st_X9_winds_116 B a0 a1 k y) 1 = 0 := by
              rw [itN_flag (P := fun i => decide ((Int32.toInt64 (sp_X9_landingTold (u1 B 5 3 0 (nI k)) (A.2.2 (tn a0) (tn (2 * nI i))))) = A.2.2 (tn a0) (tn ((2 * nI i) + 1)))) (tn a1) (fun i b hi => by
                unfold st_X9_winds_116
                have t1 : sp_X9_toldAt (u1 y.2 5 3 0 (nI k)) a0 (2 * nI i) = A.2.2 (tn a0) (tn (2 * nI i)) := by rw [h3]; exact (el i hi).1
                have t2 : sp_X9_toldAt (u1 y.2 5 3 0 (nI k)) a0 ((2 * nI i) + 1) = A.2.2 (tn a0) (tn ((2 * nI i) + 1)) := by rw [h3]; exact (el i hi).2
                rw [t1, t2, h3]
                simp only [decide_eq_true_eq])]
              unfold sp_X0_landsAsTold
              rw [fndN_all (fun i hi hp => by
                unfold ps_X0_landsAsTold_2 at hp
                split at hp
                · cases hp
                · rename_i z; rw [if_neg z])]
              refine forall_congr' (fun i => forall_congr' (fun hi => ?_))
              have e2 : (u1 x.2 2 3 0 (nI k)).2.2 (tn a0) = A.2.2 (tn a0) := by show x.2.2.2 (tn a0) = _; rw [hJ]
              unfold ps_X0_landsAsTold_2
              rw [e2, e_told ag (by rw [w_ne (by decide)]; exact hwB) (B' := u1 B 5 3 0 (nI k)) (x := A.2.2 (tn a0) (tn (2 * nI i))) (hT i hi) rfl ag]
              by_cases z : (Int32.toInt64 (sp_X9_landingTold (u1 B 5 3 0 (nI k)) (A.2.2 (tn a0) (tn (2 * nI i))))) = A.2.2 (tn a0) (tn ((2 * nI i) + 1))
              · rw [if_pos z]; simp [z]
              · rw [if_neg z]; simp [z]
            unfold st_X0_windsThatFit_5 st_X9_winds_95
            by_cases c : sp_X0_landsAsTold (u1 x.2 2 3 0 (nI k)) (tn a0) a1 = true
            · rw [if_pos c, if_neg (cond.mp c), h1]
              exact ⟨rfl, h4, h5⟩
            · rw [if_neg c, if_pos (Classical.byContradiction (fun z => c (cond.mpr z))), h1]
              exact ⟨rfl, h4, h5⟩)
          dsimp only
          generalize itN 11 (st_X0_windsThatFit_5 (cpM A 2 0) (tn a0) a1) (0, cpM A 2 0) = x at key ⊢
          generalize itN 11 (st_X9_winds_95 B a0 a1) (0, B) = y at key ⊢
          exact sr_ws hx hr key.1 key.2.1 (RS_end key.2.2)
        · have cf : ¬ sp_X5_firstWrong A 0 (tn a0) a1 2 = -1 := by
            unfold sp_X5_firstWrong
            rw [fndN_hit _ 0 j (Nat.zero_le _) (by omega) (by rw [ew j (by omega)]; exact hP) (fun k _ hk => by rw [ew k (by omega)]; exact hb k (Nat.zero_le _) hk)]
            have hP' : ps_X5_firstWrong_3 A 0 (tn a0) a1 2 j = true := by rw [ew j (by omega)]; exact hP
            unfold ps_X5_firstWrong_3 at hP'
            split at hP'
            · cases hP'
            · rename_i z; rw [if_neg z]; exact nI_nm1 (by omega)
          rw [if_neg cf, fndN_hit _ 0 j (Nat.zero_le _) (by omega) hP (fun k _ hk => hb k (Nat.zero_le _) hk)]
          unfold ps_X9_winds_46 at hP
          split at hP
          · cases hP
          · rename_i z
            rw [if_neg z]; exact sr_no hx hr (by decide)
      · rw [if_neg c2, if_neg (show ¬ 0 ≤ sp_X9_noTold B a0 (2 * a1) by rw [← e]; exact fun z => c2 (told_0.mp z))]
        exact sr_told hx hr e
    · rw [if_neg c0]
      have e : sp_X8_rowRefusal A a0 (2 * a1) = -2 := by unfold sp_X8_rowRefusal; rw [e_shelf, if_neg c0]
      rw [e, if_neg (show ¬ (-2 : Int32) = 0 by decide)]
      exact sr_no hx hr (by decide)
  · rw [if_neg c1]
    by_cases c0 : sp_X9_isShelf a0 = true
    · rw [if_pos c0, if_neg c1]; exact sr_no hx hr (by decide)
    · rw [if_neg c0]; exact sr_no hx hr (by decide)
theorem ps_kinds {a0 a1 a2 : Int32} (hx : OKX A) (hr : R2 A B) (el : ∀ i, i < tn a1 → sp_X9_toldAt B a0 (2 * nI i) = A.2.2 (tn a0) (tn (2 * nI i)) ∧ sp_X9_toldAt B a0 ((2 * nI i) + 1) = A.2.2 (tn a0) (tn ((2 * nI i) + 1))) {i : Nat} (hi : i < tn a1) : ps_X5_tellsOfWindows_2 A 0 (tn a0) a1 i = ps_X9_kinds_57 B a0 a1 a2 i := by
  unfold ps_X5_tellsOfWindows_2 ps_X9_kinds_57
  rw [(el i hi).1, ← hr.1.wc]
theorem sim_kinds (hx : OKX A) (hr : R2 A B) {a0 a1 a2 : Int32} : SR (sp_X8_kinds A a0 a1 a2) (sp_X9_kinds B a0 a1 a2) := by
  have h := hr.1
  have ok := hx.1
  unfold sp_X8_kinds sp_X9_kinds
  rw [← w98, e_one h]
  by_cases c1 : sp_X9_within a1 0 20 = true
  · rw [if_pos c1]
    have hn := wi5_bd (n := 20) c1 rfl (by omega)
    have hnl := bd_lt hn
    by_cases c3 : sp_X9_isOne B a2 = true
    · rw [if_pos c3]
      have p := one_in h hx c3
      by_cases c0 : sp_X9_isShelf a0 = true
      · have ha := isSh5 c0
        have e := e_noTold hx hr (n := 2 * a1) ha c0
        rw [if_pos c0, if_pos c1, if_pos c3]
        by_cases c2 : sp_X8_rowRefusal A a0 (2 * a1) = 0
        · rw [if_pos c2, if_pos (show 0 ≤ sp_X9_noTold B a0 (2 * a1) by rw [← e]; exact told_0.mpr c2)]
          have el := row_el2 hx hr c0 c2 hn
          have ew : ∀ i, i < tn a1 → ps_X5_tellsOfWindows_2 A 0 (tn a0) a1 i = ps_X9_kinds_57 B a0 a1 a2 i := fun i hi => ps_kinds hx hr el hi
          have fF : ∀ k, k < tn a1 → ps_X5_tellsOfWindows_2 A 0 (tn a0) a1 k = true → (fun i => (if (A.2.2 (tn a0) (tn (2 * (nI i)))) < 0 then false else if (A.2.2 (tn a0) (tn (2 * (nI i)))) < (Int32.toInt64 (A.1 0 0 0)) then true else false)) k = false := by
            intro k _ hp
            unfold ps_X5_tellsOfWindows_2 at hp
            dsimp only
            split
            · rfl
            · rename_i z
              rw [if_neg z] at hp
              split at hp
              · cases hp
              · rename_i z2; rw [if_neg z2]
          by_cases ct : sp_X5_tellsOfWindows A 0 (tn a0) a1 = true
          · rw [if_pos ct]
            have hN : ∀ i, i < tn a1 → ps_X5_tellsOfWindows_2 A 0 (tn a0) a1 i = false := (fndN_all fF).mp ct
            have hW := tw_true ok.1 ct
            have hWt : ∀ i, i < tn a1 → tn (Int64.toInt32 (A.2.2 (tn a0) (tn (2 * nI i)))) < tn (A.1 0 0 0) := by
              intro i hi
              have q := hN i hi
              unfold ps_X5_tellsOfWindows_2 at q
              split at q
              · cases q
              · rename_i z
                split at q
                · rename_i z2
                  obtain ⟨k, hk, e9⟩ := lN_of0 z
                  have hwl := bd_lt ok.1
                  rw [wc_l ok.1, e9] at z2
                  have g := (pk_lLT hk (by omega)).mp z2
                  rw [e9, lN_i, tn_nI (by omega)]; exact g
                · cases q
            rw [fndN_none _ 0 (fun k _ hk => by rw [← ew k (by omega)]; exact hN k (by omega))]
            have key := itN_rel (f := st_X5_kindsThatFit_6 A 0 (tn a0) a1 a2) (g := st_X9_kinds_122 B a0 a1 a2) (b := 0) (c := (0, B)) (fun _ x y => x = y.1 ∧ RS 9 (tn a2) B y.2) 6 ⟨rfl, RS_refl⟩ (fun k x y hk hrr => by
              obtain ⟨h1, h3⟩ := hrr
              have h5 : RS 9 (tn a2) B (u1 y.2 5 9 (tn a2) (nI k)) := RS_u h3
              have cond : sp_X5_isSlowAsTold A 0 (tn a0) a1 (nI k) (A.1 0 10 (tn a2)) = true ↔ ¬ itN (tn a1) (st_X9_kinds_143 B a0 a1 a2 k y) 1 = 0 := by
                rw [itN_flag (P := fun i => decide ((Int32.toInt64 (sp_X8_slowness (nI k) (A.1 0 10 (tn a2)) (A.1 0 7 (tn (Int64.toInt32 (A.2.2 (tn a0) (tn (2 * nI i)))))))) = A.2.2 (tn a0) (tn ((2 * nI i) + 1)))) (tn a1) (fun i b hi => by
                  unfold st_X9_kinds_143
                  have t1 : sp_X9_toldAt (u1 y.2 5 9 (tn a2) (nI k)) a0 (2 * nI i) = A.2.2 (tn a0) (tn (2 * nI i)) := by rw [h3]; exact (el i hi).1
                  have t2 : sp_X9_toldAt (u1 y.2 5 9 (tn a2) (nI k)) a0 ((2 * nI i) + 1) = A.2.2 (tn a0) (tn ((2 * nI i) + 1)) := by rw [h3]; exact (el i hi).2
                  have t3 : ∀ j, y.2.1 5 7 j = B.1 5 7 j := by
                    intro j
                    have q := congrArg (fun m : MT => m.1 5 7 j) (h3 0)
                    rw [w_ne (by decide), w_ne (by decide)] at q
                    exact q
                  rw [t1, t2, h3, t3, ← h.wi (hWt i hi) (f := 7) (by omega) (by omega)]
                  have t4 : ∀ f, sp_X9_slowTo (u1 B 5 9 (tn a2) (nI k)) a2 f = sp_X8_slowness (nI k) (A.1 0 10 (tn a2)) f := by
                    intro f
                    unfold sp_X9_slowTo sp_X8_slowness
                    rw [u1_eq, u1_f (by decide), h.pe p.1 (f := 10) (by omega) (by omega)]
                  rw [t4]
                  simp only [decide_eq_true_eq])]
                unfold sp_X5_isSlowAsTold
                rw [fndN_all (fun i hi hp => by
                  unfold ps_X5_isSlowAsTold_3 at hp
                  split at hp
                  · cases hp
                  · rename_i z; rw [if_neg z])]
                refine forall_congr' (fun i => forall_congr' (fun hi => ?_))
                unfold ps_X5_isSlowAsTold_3
                by_cases z : (Int32.toInt64 (sp_X8_slowness (nI k) (A.1 0 10 (tn a2)) (A.1 0 7 (tn (Int64.toInt32 (A.2.2 (tn a0) (tn (2 * nI i)))))))) = A.2.2 (tn a0) (tn ((2 * nI i) + 1))
                · rw [if_pos z]; simp [z]
                · rw [if_neg z]; simp [z]
              unfold st_X5_kindsThatFit_6 st_X9_kinds_122
              by_cases c : sp_X5_isSlowAsTold A 0 (tn a0) a1 (nI k) (A.1 0 10 (tn a2)) = true
              · rw [if_pos c, if_neg (cond.mp c), h1]
                exact ⟨rfl, h5⟩
              · rw [if_neg c, if_pos (Classical.byContradiction (fun z => c (cond.mpr z))), h1]
                exact ⟨rfl, h5⟩)
            unfold sp_X5_kindsThatFit
            generalize itN 6 (st_X5_kindsThatFit_6 A 0 (tn a0) a1 a2) 0 = x at key ⊢
            generalize itN 6 (st_X9_kinds_122 B a0 a1 a2) (0, B) = y at key ⊢
            rw [RS_end key.2]
            exact sr_val hx hr key.1
          · rw [if_neg ct]
            rcases fndN_cases (P := ps_X9_kinds_57 B a0 a1 a2) (A := fun i => if ps_X9_kinds_57 B a0 a1 a2 i = true then nI i else (-1)) (B := (-1)) (tn a1) 0 with ⟨_, hN⟩ | ⟨j, _, hj, hP, hb, _⟩
            · exfalso
              apply ct
              exact (fndN_all fF).mpr (fun k hk => by rw [ew k hk]; exact hN k (Nat.zero_le _) (by omega))
            · rw [fndN_hit _ 0 j (Nat.zero_le _) (by omega) hP (fun k _ hk => hb k (Nat.zero_le _) hk)]
              unfold ps_X9_kinds_57 at hP
              split at hP
              · rename_i z; rw [if_pos z]; exact sr_no hx hr (by decide)
              · rename_i z
                rw [if_neg z]
                split at hP
                · cases hP
                · rename_i z2; rw [if_neg z2]; exact sr_no hx hr (by decide)
        · rw [if_neg c2, if_neg (show ¬ 0 ≤ sp_X9_noTold B a0 (2 * a1) by rw [← e]; exact fun z => c2 (told_0.mp z))]
          exact sr_told hx hr e
      · rw [if_neg c0]
        have e : sp_X8_rowRefusal A a0 (2 * a1) = -2 := by unfold sp_X8_rowRefusal; rw [e_shelf, if_neg c0]
        rw [e, if_neg (show ¬ (-2 : Int32) = 0 by decide)]
        exact sr_no hx hr (by decide)
    · rw [if_neg c3]
      by_cases c0 : sp_X9_isShelf a0 = true
      · rw [if_pos c0, if_pos c1, if_neg c3]; exact sr_no hx hr (by decide)
      · rw [if_neg c0]; exact sr_no hx hr (by decide)
  · rw [if_neg c1]
    by_cases c0 : sp_X9_isShelf a0 = true
    · rw [if_pos c0, if_neg c1]; exact sr_no hx hr (by decide)
    · rw [if_neg c0]; exact sr_no hx hr (by decide)
end Told
