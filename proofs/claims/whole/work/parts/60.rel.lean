/-! ===== class and reference: what corresponds to what ===== -/
theorem itN_rel {β γ : Type} {f : Nat → β → β} {g : Nat → γ → γ} {b : β} {c : γ} (R : Nat → β → γ → Prop) : ∀ n, R 0 b c → (∀ k x y, k < n → R k x y → R (k + 1) (f k x) (g k y)) → R n (itN n f b) (itN n g c)
  | 0, h, _ => h
  | n + 1, h, hs => hs n _ _ (Nat.lt_succ_self n) (itN_rel R n h (fun k x y hk hr => hs k x y (Nat.lt_succ_of_lt hk) hr))
theorem itN_congr {β : Type} {f g : Nat → β → β} {b c : β} {n : Nat} (e : b = c) (h : ∀ k x, k < n → f k x = g k x) : itN n f b = itN n g c :=
  itN_rel (fun _ x y => x = y) n e (fun k x y hk hr => by rw [hr]; exact h k y hk)
theorem itN_ind {β : Type} {f : Nat → β → β} {b : β} (P : Nat → β → Prop) : ∀ n, P 0 b → (∀ k x, k < n → P k x → P (k + 1) (f k x)) → P n (itN n f b)
  | 0, h, _ => h
  | n + 1, h, hs => hs n _ (Nat.lt_succ_self n) (itN_ind P n h (fun k x hk hr => hs k x (Nat.lt_succ_of_lt hk) hr))
/-! bits -/
def tb (x : Int32) (i : Nat) : Bool := x.toBitVec.getLsbD i
theorem tb_ext {x y : Int32} (h : ∀ i, i < 32 → tb x i = tb y i) : x = y :=
  Int32.toBitVec_inj.mp (BitVec.eq_of_getLsbD_eq (fun i hi => h i hi))
theorem tb_or {x y : Int32} {i : Nat} : tb (x ||| y) i = (tb x i || tb y i) := by
  unfold tb; rw [Int32.toBitVec_or, BitVec.getLsbD_or]
theorem tb_and {x y : Int32} {i : Nat} : tb (x &&& y) i = (tb x i && tb y i) := by
  unfold tb; rw [Int32.toBitVec_and, BitVec.getLsbD_and]
theorem tb_xor {x y : Int32} {i : Nat} : tb (x ^^^ y) i = (tb x i ^^ tb y i) := by
  unfold tb; rw [Int32.toBitVec_xor, BitVec.getLsbD_xor]
theorem tb_ge {x : Int32} {i : Nat} (h : 32 ≤ i) : tb x i = false := BitVec.getLsbD_of_ge _ _ h
theorem tb_0 {i : Nat} : tb 0 i = false := by
  unfold tb; exact BitVec.getLsbD_zero
theorem tb_m1 {i : Nat} (h : i < 32) : tb (-1) i = true := (by decide +kernel : ∀ i, i < 32 → tb (-1) i = true) i h
theorem tb_sh {k i : Nat} (hk : k < 32) : tb (1 <<< (nI k &&& 31)) i = decide (i = k) := by
  rcases Nat.lt_or_ge i 32 with hi | hi
  · exact (by decide +kernel : ∀ k, k < 32 → ∀ i, i < 32 → tb (1 <<< (nI k &&& 31)) i = decide (i = k)) k hk i hi
  · rw [tb_ge hi]; exact (decide_eq_false (by omega)).symm
theorem tb_1 {i : Nat} : tb 1 i = decide (i = 0) := by
  rcases Nat.lt_or_ge i 32 with hi | hi
  · exact (by decide +kernel : ∀ i, i < 32 → tb 1 i = decide (i = 0)) i hi
  · rw [tb_ge hi]; exact (decide_eq_false (by omega)).symm
theorem tb_shr {x : Int32} {k i : Nat} (hk : k < 32) : tb ((x >>> (nI k &&& 31)) &&& 1) i = (decide (i = 0) && tb x k) := by
  rw [tb_and, tb_1]
  by_cases hi : i = 0
  · subst hi
    have e : (nI k &&& 31).toBitVec.smod 32 = BitVec.ofNat 32 k := (by decide +kernel : ∀ k, k < 32 → (nI k &&& 31).toBitVec.smod 32 = BitVec.ofNat 32 k) k hk
    unfold tb
    rw [Int32.toBitVec_shiftRight, e]
    rw [BitVec.sshiftRight_eq', BitVec.getLsbD_sshiftRight, BitVec.toNat_ofNat, Nat.mod_eq_of_lt (by omega)]
    simp [hk]
  · simp [hi]
theorem bit_eq {x : Int32} {k : Nat} (hk : k < 32) : ((x >>> (nI k &&& 31)) &&& 1) = if tb x k = true then 1 else 0 := by
  refine tb_ext (fun i hi => ?_)
  rw [tb_shr hk]
  split
  · rename_i h; rw [h, tb_1]; simp
  · rename_i h
    have : tb x k = false := by cases q : tb x k <;> simp_all
    rw [this, tb_0]; simp
theorem bit_0 {x : Int32} {k : Nat} (hk : k < 32) : ((x >>> (nI k &&& 31)) &&& 1) = 0 ↔ tb x k = false := by
  rw [bit_eq hk]
  cases tb x k <;> simp
theorem bit_1 {x : Int32} {k : Nat} (hk : k < 32) : ((x >>> (nI k &&& 31)) &&& 1) = 1 ↔ tb x k = true := by
  rw [bit_eq hk]
  cases tb x k <;> simp
theorem tb_z {x : Int32} : x = 0 ↔ ∀ i, i < 32 → tb x i = false := by
  constructor
  · intro h i _; rw [h, tb_0]
  · intro h; exact tb_ext (fun i hi => by rw [h i hi, tb_0])
theorem tb_n0 {x : Int32} : ¬ x = 0 ↔ ∃ i, i < 32 ∧ tb x i = true := by
  rw [tb_z]
  constructor
  · intro h
    apply Classical.byContradiction
    intro q
    apply h
    intro i hi
    cases e : tb x i
    · rfl
    · exact absurd ⟨i, hi, e⟩ q
  · rintro ⟨i, hi, e⟩ h
    rw [h i hi] at e; cases e
/-- a mask, built bit by bit -/
theorem itN_bits {f : Nat → Int32 → Int32} {P : Nat → Bool} {n : Nat} (hn : n ≤ 32) (hf : ∀ k b, k < n → f k b = if P k = true then b ||| (1 <<< (nI k &&& 31)) else b) {i : Nat} : tb (itN n f 0) i = (decide (i < n) && P i) := by
  refine itN_ind (fun k x => tb x i = (decide (i < k) && P i)) n ?_ (fun k x hk hx => ?_)
  · rw [tb_0]; simp
  · show tb (f k x) i = _
    rw [hf k x hk]
    split
    · rename_i hp
      rw [tb_or, hx, tb_sh (by omega)]
      by_cases e : i = k
      · subst e; simp [hp]
      · have : (i < k + 1) = (i < k) := by apply propext; omega
        simp [e, this]
    · rename_i hp
      rw [hx]
      by_cases e : i = k
      · subst e
        have : P i = false := by cases q : P i <;> simp_all
        simp [this]
      · have : (i < k + 1) = (i < k) := by apply propext; omega
        simp [this]
/-- a mask, put together -/
theorem itN_ors {f : Nat → Int32 → Int32} {g : Nat → Int32} {n : Nat} (hf : ∀ k b, k < n → f k b = b ||| g k) {i : Nat} : tb (itN n f 0) i = true ↔ ∃ k, k < n ∧ tb (g k) i = true := by
  refine itN_ind (fun m x => tb x i = true ↔ ∃ k, k < m ∧ tb (g k) i = true) n ?_ (fun m x hm hx => ?_)
  · rw [tb_0]
    constructor
    · intro h; cases h
    · rintro ⟨k, hk, _⟩; exact absurd hk (Nat.not_lt_zero k)
  · show tb (f m x) i = true ↔ _
    rw [hf m x hm, tb_or, Bool.or_eq_true, hx]
    constructor
    · rintro (⟨k, hk, e⟩ | e)
      · exact ⟨k, by omega, e⟩
      · exact ⟨m, by omega, e⟩
    · rintro ⟨k, hk, e⟩
      rcases Nat.lt_or_ge k m with q | q
      · exact Or.inl ⟨k, q, e⟩
      · exact Or.inr (by rw [show m = k by omega]; exact e)
theorem tb_iff {x y : Int32} (h : ∀ i, i < 32 → (tb x i = true ↔ tb y i = true)) : x = y := tb_ext (fun i hi => by
  have := h i hi
  cases p : tb x i <;> cases q : tb y i <;> simp_all)
/-! counts -/
def cntN (P : Nat → Bool) : Nat → Nat
  | 0 => 0
  | n + 1 => cntN P n + (if P n = true then 1 else 0)
theorem cntN_le (P : Nat → Bool) : ∀ n, cntN P n ≤ n
  | 0 => Nat.le_refl _
  | n + 1 => by
    have := cntN_le P n
    unfold cntN
    split <;> omega
theorem cntN_congr {P Q : Nat → Bool} : ∀ n, (∀ k, k < n → P k = Q k) → cntN P n = cntN Q n
  | 0, _ => rfl
  | n + 1, h => by
    unfold cntN
    rw [cntN_congr n (fun k hk => h k (by omega)), h n (by omega)]
theorem cntN_shift {P : Nat → Bool} : ∀ n, cntN P (n + 1) = (if P 0 = true then 1 else 0) + cntN (fun k => P (k + 1)) n
  | 0 => by simp [cntN]
  | n + 1 => by
    rw [cntN, cntN_shift n, cntN]
    omega
theorem cntN_rev : ∀ (n : Nat) (P : Nat → Bool), cntN (fun k => P (n - 1 - k)) n = cntN P n
  | 0, _ => rfl
  | n + 1, P => by
    rw [cntN_shift n]
    have e : cntN (fun k => P (n + 1 - 1 - (k + 1))) n = cntN P n := by
      rw [← cntN_rev n P]
      exact cntN_congr n (fun k hk => by congr 1; omega)
    rw [e, cntN]
    simp
    omega
theorem itN_cnt {f : Nat → Int32 → Int32} {P : Nat → Bool} {n : Nat} (hf : ∀ k b, k < n → f k b = if P k = true then b + 1 else b) {b : Nat} : itN n f (nI b) = nI (b + cntN P n) := by
  refine itN_ind (fun k x => x = nI (b + cntN P k)) n rfl (fun k x hk hx => ?_)
  show f k x = _
  rw [hf k x hk, hx, cntN]
  split
  · rw [nI_1]; rfl
  · rfl
theorem itN_cnt0 {f : Nat → Int32 → Int32} {P : Nat → Bool} {n : Nat} (hf : ∀ k b, k < n → f k b = if P k = true then b + 1 else b) : itN n f 0 = nI (cntN P n) := by
  have := itN_cnt hf (b := 0)
  rw [Nat.zero_add] at this
  exact this
/-! ===== streets ===== -/
/-- two streets hold the same, as far as anything can be told of them -/
def AG (V W : Nat → Nat → Int32) : Prop :=
  (∀ f, f < 6 → f ≠ 3 → V f 0 = W f 0) ∧ (∀ i, i < 3 → V 3 i = W 3 i) ∧ (∀ f w, 6 ≤ f → f < 9 → w < tn (V 0 0) → V f w = W f w) ∧ (∀ f p, 9 ≤ f → f < 14 → p < tn (V 1 0) → V f p = W f p)
theorem AG.wc {V W : Nat → Nat → Int32} (h : AG V W) : V 0 0 = W 0 0 := h.1 0 (by omega) (by omega)
theorem AG.pc {V W : Nat → Nat → Int32} (h : AG V W) : V 1 0 = W 1 0 := h.1 1 (by omega) (by omega)
theorem AG.cl {V W : Nat → Nat → Int32} (h : AG V W) : V 2 0 = W 2 0 := h.1 2 (by omega) (by omega)
theorem AG.sd {V W : Nat → Nat → Int32} (h : AG V W) : V 4 0 = W 4 0 := h.1 4 (by omega) (by omega)
theorem AG.se {V W : Nat → Nat → Int32} (h : AG V W) : V 5 0 = W 5 0 := h.1 5 (by omega) (by omega)
theorem AG.wy {V W : Nat → Nat → Int32} (h : AG V W) {i : Nat} (hi : i < 3) : V 3 i = W 3 i := h.2.1 i hi
theorem AG.wi {V W : Nat → Nat → Int32} (h : AG V W) {f w : Nat} (hw : w < tn (V 0 0)) (h6 : 6 ≤ f) (h9 : f < 9) : V f w = W f w := h.2.2.1 f w h6 h9 hw
theorem AG.pe {V W : Nat → Nat → Int32} (h : AG V W) {f p : Nat} (hp : p < tn (V 1 0)) (h6 : 9 ≤ f) (h9 : f < 14) : V f p = W f p := h.2.2.2 f p h6 h9 hp
theorem AG.refl (V : Nat → Nat → Int32) : AG V V := ⟨fun _ _ _ => rfl, fun _ _ => rfl, fun _ _ _ _ _ => rfl, fun _ _ _ _ _ => rfl⟩
theorem AG.trans {U V W : Nat → Nat → Int32} (h : AG U V) (g : AG V W) : AG U W :=
  ⟨fun f h6 h3 => (h.1 f h6 h3).trans (g.1 f h6 h3), fun i hi => (h.2.1 i hi).trans (g.2.1 i hi), fun f w h6 h9 hw => (h.2.2.1 f w h6 h9 hw).trans (g.2.2.1 f w h6 h9 (by rw [← h.wc]; exact hw)), fun f w h6 h9 hw => (h.2.2.2 f w h6 h9 hw).trans (g.2.2.2 f w h6 h9 (by rw [← h.pc]; exact hw))⟩
theorem AG.symm {V W : Nat → Nat → Int32} (h : AG V W) : AG W V :=
  ⟨fun f h6 h3 => (h.1 f h6 h3).symm, fun i hi => (h.2.1 i hi).symm, fun f w h6 h9 hw => (h.2.2.1 f w h6 h9 (by rw [h.wc]; exact hw)).symm, fun f w h6 h9 hw => (h.2.2.2 f w h6 h9 (by rw [h.pc]; exact hw)).symm⟩
section Streets
variable {A B : MT} {s : Nat}
theorem e_cell (h : AG (A.1 s) (B.1 5)) {c : Int32} : sp_X5_hasCell A s c = sp_X9_isCell B c := by
  unfold sp_X5_hasCell sp_X9_isCell; rw [h.cl, w98]
theorem e_win (h : AG (A.1 s) (B.1 5)) {c : Int32} : sp_X5_hasWindow A s c = sp_X9_isWindow B c := by
  unfold sp_X5_hasWindow sp_X9_isWindow; rw [h.wc, w98]
theorem e_one (h : AG (A.1 s) (B.1 5)) {c : Int32} : sp_X5_hasPerson A s c = sp_X9_isOne B c := by
  unfold sp_X5_hasPerson sp_X9_isOne; rw [h.pc, w98]
theorem ring1 (a w f : Int32) : a + w - 5 + f = a + f + w - 5 := by
  rw [Int32.sub_eq_add_neg, Int32.sub_eq_add_neg, Int32.add_assoc (a + w), Int32.add_comm (-5) f, ← Int32.add_assoc, Int32.add_assoc a w f, Int32.add_comm w f, ← Int32.add_assoc]
theorem ring2 (a w f : Int32) : a + w - 5 - f = a + -f + w - 5 := by
  rw [Int32.sub_eq_add_neg (a + w - 5) f]; exact ring1 a w (-f)
theorem e_land (h : AG (A.1 s) (B.1 5)) {w f y : Int32} (hw : tn w < tn (A.1 s 0 0)) (hy : y = 0 ∨ y = 1 ∨ y = 2) : sp_X5_landing A s w f y = sp_X9_landing B w f y := by
  unfold sp_X5_landing sp_X9_landing
  rw [h.wi hw (f := 6) (by omega) (by omega), h.wi hw (f := 7) (by omega) (by omega), h.wy (i := 0) (by omega)]
  rcases hy with rfl | rfl | rfl
  · rw [if_neg (show ¬ (0 : Int32) = 1 by decide), if_neg (show ¬ (0 : Int32) = 2 by decide), if_pos rfl, if_neg (show ¬ (0 : Int32) = 2 by decide), e_cell h, Int32.add_zero]
  · rw [if_pos rfl, if_neg (show ¬ (1 : Int32) = 0 by decide), if_neg (show ¬ (1 : Int32) = 2 by decide), e_cell h, ring1]
  · rw [if_neg (show ¬ (2 : Int32) = 1 by decide), if_pos rfl, if_neg (show ¬ (2 : Int32) = 0 by decide), if_pos rfl, e_cell h, ring2]
theorem land_c {w f y : Int32} : sp_X5_landing A s w f y = -1 ∨ sp_X5_hasCell A s (sp_X5_landing A s w f y) = true := by
  unfold sp_X5_landing
  (repeat' split) <;> first | exact Or.inl rfl | (right; assumption)
theorem k6 {x : Int32} (h : bd x 6) : x = 0 ∨ x = 1 ∨ x = 2 ∨ x = 3 ∨ x = 4 ∨ x = 5 := by
  have e := bd_eq h
  have hl := bd_lt h
  generalize tn x = k at e hl
  subst e
  rcases (show k = 0 ∨ k = 1 ∨ k = 2 ∨ k = 3 ∨ k = 4 ∨ k = 5 by omega) with rfl | rfl | rfl | rfl | rfl | rfl
  · exact Or.inl rfl
  · exact Or.inr (Or.inl rfl)
  · exact Or.inr (Or.inr (Or.inl rfl))
  · exact Or.inr (Or.inr (Or.inr (Or.inl rfl)))
  · exact Or.inr (Or.inr (Or.inr (Or.inr (Or.inl rfl))))
  · exact Or.inr (Or.inr (Or.inr (Or.inr (Or.inr rfl))))
theorem e_reach0 {p : Nat} (h : A.1 s 9 p = B.1 5 9 p) (hk : bd (A.1 s 9 p) 6) (hp : p < 2147483648) : sp_X9_reach B (nI p) = sp_X2_reach A s p := by
  unfold sp_X9_reach sp_X2_reach
  rw [tn_nI hp, ← h]
  rcases k6 hk with q | q | q | q | q | q <;> rw [q] <;> decide
theorem e_reach (h : AG (A.1 s) (B.1 5)) (ok : OKs A s) {p : Nat} (hp : p < tn (A.1 s 1 0)) : sp_X9_reach B (nI p) = sp_X2_reach A s p := by
  have := bd_lt ok.2.1
  exact e_reach0 (h.pe hp (by omega) (by omega)) (ok.2.2.2.2.2.2.1 p (by omega)) (by omega)
theorem e_away (h : AG (A.1 s) (B.1 5)) {p : Nat} {c : Int32} (hp : p < tn (A.1 s 1 0)) : sp_X9_away B (nI p) c = iabs (A.1 s 11 p - c) := by
  unfold sp_X9_away
  have := tn_small (A.1 s 1 0)
  rw [tn_nI (by omega), h.pe hp (f := 11) (by omega) (by omega)]
theorem rc_iff {p : Nat} {c : Int32} : sp_X2_reaches A s p c = true ↔ ¬ sp_X2_reach A s p < iabs (A.1 s 11 p - c) := by
  unfold sp_X2_reaches
  split <;> simp_all
theorem nI_nm1 {k : Nat} (hk : k < 2147483648) : ¬ nI k = -1 := by
  intro q
  have := congrArg Int32.toInt q
  rw [nI_toInt hk] at this
  have e : (-1 : Int32).toInt = -1 := by decide
  omega
/-- of horses and of others -/
theorem near_eq (h : AG (A.1 s) (B.1 5)) (ok : OKs A s) (q c : Int32) : ∀ k, k ≤ tn (A.1 s 1 0) →
    ∃ f0 f1, itN k (st_X9_nearest_6 B c q 0) (-1) = f0 ∧ itN k (st_X9_nearest_6 B c q 1) (-1) = f1 ∧ itN k (st_X5_catcherBut_15 A s q c) (-1) = (if f0 = -1 then f1 else f0) ∧
      (f0 = -1 ∨ ∃ j, j < k ∧ f0 = nI j ∧ ¬ A.1 s 9 j = 5) ∧ (f1 = -1 ∨ ∃ j, j < k ∧ f1 = nI j ∧ A.1 s 9 j = 5)
  | 0, _ => ⟨-1, -1, rfl, rfl, rfl, Or.inl rfl, Or.inl rfl⟩
  | k + 1, hk => by
    obtain ⟨f0, f1, e0, e1, e2, h0, h1⟩ := near_eq h ok q c k (by omega)
    have hs := tn_small (A.1 s 1 0)
    have hkp : k < tn (A.1 s 1 0) := by omega
    have kd := h.pe hkp (f := 9) (by omega) (by omega)
    have rs := h.pe hkp (f := 12) (by omega) (by omega)
    have rc := e_reach h ok hkp
    have aw := e_away h hkp (c := c)
    have nk := nI_nm1 (k := k) (by omega)
    show ∃ f0' f1', st_X9_nearest_6 B c q 0 k (itN k (st_X9_nearest_6 B c q 0) (-1)) = f0' ∧ st_X9_nearest_6 B c q 1 k (itN k (st_X9_nearest_6 B c q 1) (-1)) = f1' ∧ st_X5_catcherBut_15 A s q c k (itN k (st_X5_catcherBut_15 A s q c) (-1)) = _ ∧ _ ∧ _
    rw [e0, e1, e2]
    have up0 : (f0 = -1 ∨ ∃ j, j < k + 1 ∧ f0 = nI j ∧ ¬ A.1 s 9 j = 5) := h0.imp id (fun ⟨j, a, b⟩ => ⟨j, by omega, b⟩)
    have up1 : (f1 = -1 ∨ ∃ j, j < k + 1 ∧ f1 = nI j ∧ A.1 s 9 j = 5) := h1.imp id (fun ⟨j, a, b⟩ => ⟨j, by omega, b⟩)
    unfold st_X9_nearest_6 st_X5_catcherBut_15
    rw [← kd, ← rs, rc, aw]
    by_cases c1 : nI k = q
    · rw [if_pos c1, if_pos c1, if_pos c1]
      exact ⟨f0, f1, rfl, rfl, rfl, up0, up1⟩
    rw [if_neg c1, if_neg c1, if_neg c1]
    by_cases c2 : A.1 s 12 k = -1
    · by_cases c3 : sp_X2_reach A s k < iabs (A.1 s 11 k - c)
      · have c3' : ¬ sp_X2_reaches A s k c = true := fun z => rc_iff.mp z c3
        simp only [if_pos c2, if_pos c3, if_neg c3', ite_self]
        exact ⟨f0, f1, rfl, rfl, rfl, up0, up1⟩
      · have c3' : sp_X2_reaches A s k c = true := rc_iff.mpr c3
        simp only [if_pos c2, if_neg c3, if_pos c3']
        by_cases c4 : A.1 s 9 k = 5
        · simp only [if_pos c4, if_neg (show ¬ (1 : Int32) = 0 by decide), if_true]
          rcases h0 with rfl | ⟨j, hj, rfl, hj5⟩
          · rcases h1 with rfl | ⟨i, hi, rfl, hi5⟩
            · exact ⟨-1, nI k, rfl, by rw [if_pos rfl], by simp, Or.inl rfl, Or.inr ⟨k, by omega, rfl, c4⟩⟩
            · have ni := nI_nm1 (k := i) (by omega)
              have ai := e_away h (show i < tn (A.1 s 1 0) by omega) (c := c)
              simp only [eq_self_iff_true, if_true, if_neg ni, ai]
              have ha : sp_X2_isAheadOf A s k s (tn (nI i)) c = true ↔ ¬ iabs (A.1 s 11 i - c) ≤ iabs (A.1 s 11 k - c) := by
                unfold sp_X2_isAheadOf sp_X2_isHorse
                rw [tn_nI (by omega), if_pos c4, if_pos hi5, if_pos rfl]
                split <;> simp_all
              by_cases c5 : iabs (A.1 s 11 i - c) ≤ iabs (A.1 s 11 k - c)
              · rw [if_pos c5, if_neg (fun z => ha.mp z c5)]
                exact ⟨-1, nI i, rfl, rfl, rfl, Or.inl rfl, Or.inr ⟨i, by omega, rfl, hi5⟩⟩
              · rw [if_neg c5, if_pos (ha.mpr c5)]
                exact ⟨-1, nI k, rfl, rfl, rfl, Or.inl rfl, Or.inr ⟨k, by omega, rfl, c4⟩⟩
          · have nj := nI_nm1 (k := j) (by omega)
            simp only [if_neg nj]
            have ha : ¬ sp_X2_isAheadOf A s k s (tn (nI j)) c = true := by
              unfold sp_X2_isAheadOf sp_X2_isHorse
              rw [tn_nI (by omega), if_pos c4, if_neg hj5, if_neg (by decide)]
              decide
            rw [if_neg ha]
            refine ⟨nI j, _, rfl, rfl, by rw [if_neg nj], Or.inr ⟨j, by omega, rfl, hj5⟩, ?_⟩
            split
            · exact Or.inr ⟨k, by omega, rfl, c4⟩
            · split
              · exact up1
              · exact Or.inr ⟨k, by omega, rfl, c4⟩
        · simp only [if_neg c4, if_neg (show ¬ (0 : Int32) = 1 by decide), if_true]
          rcases h0 with rfl | ⟨j, hj, rfl, hj5⟩
          · simp only [eq_self_iff_true, if_true]
            refine ⟨nI k, f1, rfl, rfl, ?_, Or.inr ⟨k, by omega, rfl, c4⟩, up1⟩
            rw [if_neg nk]
            rcases h1 with rfl | ⟨i, hi, rfl, hi5⟩
            · rw [if_pos rfl]
            · have ni := nI_nm1 (k := i) (by omega)
              have ha : sp_X2_isAheadOf A s k s (tn (nI i)) c = true := by
                unfold sp_X2_isAheadOf sp_X2_isHorse
                rw [tn_nI (by omega), if_neg c4, if_pos hi5, if_neg (by decide)]
              rw [if_neg ni, if_pos ha]
          · have nj := nI_nm1 (k := j) (by omega)
            have aj := e_away h (show j < tn (A.1 s 1 0) by omega) (c := c)
            simp only [if_neg nj, aj]
            have ha : sp_X2_isAheadOf A s k s (tn (nI j)) c = true ↔ ¬ iabs (A.1 s 11 j - c) ≤ iabs (A.1 s 11 k - c) := by
              unfold sp_X2_isAheadOf sp_X2_isHorse
              rw [tn_nI (by omega), if_neg c4, if_neg hj5, if_pos rfl]
              split <;> simp_all
            by_cases c5 : iabs (A.1 s 11 j - c) ≤ iabs (A.1 s 11 k - c)
            · rw [if_pos c5, if_neg (fun z => ha.mp z c5)]
              exact ⟨nI j, f1, rfl, rfl, by rw [if_neg nj], Or.inr ⟨j, by omega, rfl, hj5⟩, up1⟩
            · rw [if_neg c5, if_pos (ha.mpr c5)]
              exact ⟨nI k, f1, rfl, rfl, by rw [if_neg nk], Or.inr ⟨k, by omega, rfl, c4⟩, up1⟩
    · simp only [if_neg c2, ite_self]
      exact ⟨f0, f1, rfl, rfl, rfl, up0, up1⟩
theorem cell_nm1 {c : Int32} (h : sp_X5_hasCell A s c = true) : ¬ c = -1 := by
  unfold sp_X5_hasCell at h
  intro q
  have := (within_iff.mp h).1
  rw [q] at this
  exact absurd this (by decide)
theorem e_catch (h : AG (A.1 s) (B.1 5)) (ok : OKs A s) {q c : Int32} (hc : c = -1 ∨ sp_X5_hasCell A s c = true) : sp_X5_catcherBut A s q c = sp_X9_catcher B c q := by
  unfold sp_X5_catcherBut sp_X9_catcher
  rcases hc with rfl | hc
  · rw [if_neg (fun z => cell_nm1 z rfl), if_pos rfl]
  · rw [if_pos hc, if_neg (cell_nm1 hc)]
    unfold sp_X9_nearest
    obtain ⟨f0, f1, e0, e1, e2, _, _⟩ := near_eq h ok q c _ (Nat.le_refl _)
    rw [← h.pc, e0, e1, e2]
theorem e_caught (h : AG (A.1 s) (B.1 5)) (ok : OKs A s) {w f y : Int32} (hw : tn w < tn (A.1 s 0 0)) (hy : y = 0 ∨ y = 1 ∨ y = 2) : sp_X5_catcherOf A s w f y = sp_X9_caughtBy B w f y := by
  unfold sp_X5_catcherOf sp_X9_caughtBy
  rw [e_catch h ok land_c, e_land h hw hy]
end Streets
