/-! ===== who is paired with whom: the settling ===== -/
section Settle
variable {P : Nat} {H : Nat → Nat → Bool} {φ : Nat → Nat → Nat}
/-- the best of all, and who reaches it -/
theorem opt_cases {E : Int32 → Nat} {w : Nat} {u : Int32} : ∀ k,
    (optN H φ E w u k = (E u, -1) ∧ ∀ i, i < k → H w i = true → tb u i = false → ¬ E u < φ w i + E (u ||| (1 <<< (nI i &&& 31)))) ∨
    ∃ j, j < k ∧ optN H φ E w u k = (φ w j + E (u ||| (1 <<< (nI j &&& 31))), nI j) ∧ H w j = true ∧ tb u j = false ∧ E u < φ w j + E (u ||| (1 <<< (nI j &&& 31))) ∧
      (∀ i, i < k → H w i = true → tb u i = false → φ w i + E (u ||| (1 <<< (nI i &&& 31))) ≤ φ w j + E (u ||| (1 <<< (nI j &&& 31)))) ∧
      (∀ i, i < j → H w i = true → tb u i = false → φ w i + E (u ||| (1 <<< (nI i &&& 31))) < φ w j + E (u ||| (1 <<< (nI j &&& 31))))
  | 0 => Or.inl ⟨rfl, fun i hi => absurd hi (Nat.not_lt_zero i)⟩
  | k + 1 => by
    have e : optN H φ E w u (k + 1) = if H w k = true ∧ tb u k = false ∧ (optN H φ E w u k).1 < φ w k + E (u ||| (1 <<< (nI k &&& 31))) then (φ w k + E (u ||| (1 <<< (nI k &&& 31))), nI k) else optN H φ E w u k := rfl
    rcases opt_cases (E := E) (w := w) (u := u) k with ⟨h1, h2⟩ | ⟨j, h0, h1, h2, h3, h4, h5, h6⟩
    · by_cases c : H w k = true ∧ tb u k = false ∧ (optN H φ E w u k).1 < φ w k + E (u ||| (1 <<< (nI k &&& 31)))
      · rw [if_pos c] at e
        rw [h1] at c
        obtain ⟨c1, c2, c3⟩ := c
        have c4 : E u < φ w k + E (u ||| (1 <<< (nI k &&& 31))) := c3
        refine Or.inr ⟨k, by omega, e, c1, c2, c4, fun i hi q1 q2 => ?_, fun i hi q1 q2 => ?_⟩
        · by_cases z : i = k
          · rw [z]; exact Nat.le_refl _
          · have := h2 i (by omega) q1 q2
            omega
        · have := h2 i hi q1 q2
          omega
      · rw [if_neg c] at e
        refine Or.inl ⟨e.trans h1, fun i hi q1 q2 => ?_⟩
        by_cases z : i = k
        · subst z
          intro q
          exact c ⟨q1, q2, by rw [h1]; exact q⟩
        · exact h2 i (by omega) q1 q2
    · by_cases c : H w k = true ∧ tb u k = false ∧ (optN H φ E w u k).1 < φ w k + E (u ||| (1 <<< (nI k &&& 31)))
      · rw [if_pos c] at e
        rw [h1] at c
        obtain ⟨c1, c2, c3⟩ := c
        have c4 : φ w j + E (u ||| (1 <<< (nI j &&& 31))) < φ w k + E (u ||| (1 <<< (nI k &&& 31))) := c3
        refine Or.inr ⟨k, by omega, e, c1, c2, by omega, fun i hi q1 q2 => ?_, fun i hi q1 q2 => ?_⟩
        · by_cases z : i = k
          · rw [z]; exact Nat.le_refl _
          · have := h5 i (by omega) q1 q2
            omega
        · have := h5 i hi q1 q2
          omega
      · rw [if_neg c] at e
        refine Or.inr ⟨j, by omega, e.trans h1, h2, h3, h4, fun i hi q1 q2 => ?_, h6⟩
        by_cases z : i = k
        · subst z
          have : ¬ (φ w j + E (u ||| (1 <<< (nI j &&& 31)))) < φ w i + E (u ||| (1 <<< (nI i &&& 31))) := fun q => c ⟨q1, q2, by rw [h1]; exact q⟩
          omega
        · exact h5 i (by omega) q1 q2
theorem or_tab : ∀ a, a < 256 → ∀ p, p < 8 → nI a ||| ((1 : Int32) <<< (nI p &&& 31)) = nI (a ||| 2 ^ p) := by decide +kernel
theorem or_in {t p : Nat} (hP : P ≤ 8) (ht : t < 2 ^ P) (hp : p < P) : nI t ||| ((1 : Int32) <<< (nI p &&& 31)) = nI (t ||| 2 ^ p) ∧ t ||| 2 ^ p < 2 ^ P ∧ t ||| 2 ^ p < 256 := by
  have h8 : 2 ^ P ≤ 2 ^ 8 := Nat.pow_le_pow_right (by omega) hP
  have e : (2 : Nat) ^ 8 = 256 := rfl
  have h : t ||| 2 ^ p < 2 ^ P := Nat.or_lt_two_pow ht (Nat.pow_lt_pow_right (by omega) hp)
  exact ⟨or_tab t (by omega) p (by omega), h, by omega⟩
/-- what the settling knows of a window: who may be hit -/
theorem can_0 {m u : Int32} {k : Nat} (hk : k < 8) : (((m &&& (u ^^^ (-1))) >>> ((nI k) &&& 31)) &&& 1) = 0 ↔ ¬ (tb m k = true ∧ tb u k = false) := by
  rw [bit_0 (by omega), tb_and, tb_xor, tb_m1 (by omega)]
  cases tb m k <;> cases tb u k <;> decide
/-- the class' memory when it weighs -/
def WM (W P : Nat) (H : Nat → Nat → Bool) (φ : Nat → Nat → Nat) (X : MT) : Prop :=
  X.1 3 0 0 = nI W ∧ X.1 3 1 0 = nI P ∧ (∀ w p, w < W → p < P → tb (X.2.1 4 w) p = H w p) ∧ (∀ w p, w < W → p < P → sp_X5_fondness X 3 (nI w) (nI p) = nI (φ w p))
theorem WM_of {W : Nat} {X Y : MT} (h : WM W P H φ X) (e : Y.1 = X.1) (e4 : Y.2.1 4 = X.2.1 4) : WM W P H φ Y := by
  obtain ⟨h1, h2, h3, h4⟩ := h
  refine ⟨by rw [e]; exact h1, by rw [e]; exact h2, fun w p hw hp => by rw [e4]; exact h3 w p hw hp, fun w p hw hp => ?_⟩
  have := h4 w p hw hp
  unfold sp_X5_fondness at *
  rw [e]; exact this
theorem w_1 {w : Nat} (h : w < 8) : tn (nI w + 1) = w + 1 := by rw [nI_1, tn_nI (by omega)]
theorem e_mostW {X : MT} {W w n t p : Nat} (hP : P ≤ 8) (hW : W ≤ 8) (hX : WM W P H φ X) (hw : w < W) (ht : t < 2 ^ P) (hp : p < P) (hn : ∀ t, t < 2 ^ P → X.2.1 (13 + (w + 1)) t = nI (FN P H φ n (w + 1) (nI t))) :
    sp_X1_mostWith X (nI w) (nI t) (nI p) = nI (φ w p + FN P H φ n (w + 1) (nI t ||| (1 <<< (nI p &&& 31)))) := by
  obtain ⟨o1, o2, o3⟩ := or_in hP ht hp
  unfold sp_X1_mostWith
  rw [w_1 (by omega), o1, tn_nI (by omega), hn _ o2, hX.2.2.2 w p hw hp]
  exact nI_add _ _
theorem e_mostF {X : MT} {W w n t : Nat} (hP : P ≤ 8) (hW : W ≤ 8) (hφ : ∀ w p, φ w p ≤ 10) (hn8 : n ≤ 8) (hX : WM W P H φ X) (hw : w < W) (ht : t < 2 ^ P) (hn : ∀ t, t < 2 ^ P → X.2.1 (13 + (w + 1)) t = nI (FN P H φ n (w + 1) (nI t))) :
    sp_X1_mostFrom X (nI w) (nI t) = nI (FN P H φ (n + 1) w (nI t)) := by
  have h8 : 2 ^ P ≤ 2 ^ 8 := Nat.pow_le_pow_right (by omega) hP
  have e8 : (2 : Nat) ^ 8 = 256 := rfl
  unfold sp_X1_mostFrom
  rw [w_1 (by omega), show tn (nI t) = t from tn_nI (by omega), hn t ht, hX.2.1, show tn (nI P) = P from tn_nI (by omega)]
  refine itN_ind (fun k x => x = nI (optN H φ (fun v => FN P H φ n (w + 1) v) w (nI t) k).1) P rfl (fun k x hk hx => ?_)
  have b1 := FN_le (P := P) (H := H) hφ n (w + 1)
  have b2 := opt_le (H := H) (w := w) (u := nI t) hφ b1 k
  have b3 := hφ w k
  have b4 := b1 (nI t ||| (1 <<< (nI k &&& 31)))
  have bn : n * 10 ≤ 80 := by omega
  show st_X1_mostFrom_26 X (nI w) (nI t) k x = _
  have e : optN H φ (fun v => FN P H φ n (w + 1) v) w (nI t) (k + 1) = if H w k = true ∧ tb (nI t) k = false ∧ (optN H φ (fun v => FN P H φ n (w + 1) v) w (nI t) k).1 < φ w k + FN P H φ n (w + 1) (nI t ||| (1 <<< (nI k &&& 31))) then (φ w k + FN P H φ n (w + 1) (nI t ||| (1 <<< (nI k &&& 31))), nI k) else optN H φ (fun v => FN P H φ n (w + 1) v) w (nI t) k := rfl
  rw [e, hx]
  generalize optN H φ (fun v => FN P H φ n (w + 1) v) w (nI t) k = o at b2 ⊢
  unfold st_X1_mostFrom_26
  rw [e_mostW hP hW hX hw ht hk hn, show tn (nI w) = w from tn_nI (by omega)]
  generalize FN P H φ n (w + 1) (nI t ||| (1 <<< (nI k &&& 31))) = f at b4 ⊢
  have h4 := hX.2.2.1 w k hw hk
  by_cases c : (((X.2.1 4 w) &&& ((nI t) ^^^ (-1))) >>> ((nI k) &&& 31)) &&& 1 = 0
  · rw [if_pos c]
    rw [can_0 (by omega), h4] at c
    rw [if_neg (fun z => c ⟨z.1, z.2.1⟩)]
  · rw [if_neg c]
    rw [can_0 (by omega), h4] at c
    have c' := Classical.not_not.mp c
    unfold imax
    by_cases d : o.1 < φ w k + f
    · rw [if_pos ((nI_ltI (by omega) (by omega)).mpr d), if_pos ⟨c'.1, c'.2, d⟩]
    · rw [if_neg (fun z => d ((nI_ltI (by omega) (by omega)).mp z)), if_neg (fun z => d z.2.2)]
theorem tn_dn {W i : Nat} (h : i < W) (hW : W ≤ 8) : dn W i = nI (W - 1 - i) ∧ tn (dn W i) = W - 1 - i := by
  have e : dn W i = nI (W - 1 - i) := if_pos h
  rw [e]
  exact ⟨rfl, tn_nI (by omega)⟩
/-- the first row: no window is left -/
theorem weigh0 {M X : MT} {W : Nat} (hW : W ≤ 8) (hX : X.1 3 0 0 = nI W) : ∀ n, (itN n (st_X1_weigh_14 M) X).1 = X.1 ∧ (itN n (st_X1_weigh_14 M) X).2.2 = X.2.2 ∧ (∀ c, c ≠ 13 + W → (itN n (st_X1_weigh_14 M) X).2.1 c = X.2.1 c) ∧ ∀ t, t < n → (itN n (st_X1_weigh_14 M) X).2.1 (13 + W) t = 0
  | 0 => ⟨rfl, rfl, fun _ _ => rfl, fun t ht => absurd ht (Nat.not_lt_zero t)⟩
  | n + 1 => by
    obtain ⟨m1, m2, m3, m4⟩ := weigh0 (M := M) hW hX n
    rw [itN_s]
    generalize itN n (st_X1_weigh_14 M) X = m at m1 m2 m3 m4 ⊢
    unfold st_X1_weigh_14
    rw [m1, hX, show tn (nI W) = W from tn_nI (by omega)]
    refine ⟨m1, m2, fun c hc => (u2_ne hc).trans (m3 c hc), fun t ht => ?_⟩
    by_cases e : t = n
    · rw [e, u2_eq]
    · rw [u2_ie e]; exact m4 t (by omega)
/-- a row -/
theorem weigh1 {M b X : MT} {W i n : Nat} (hP : P ≤ 8) (hW : W ≤ 8) (hφ : ∀ w p, φ w p ≤ 10) (eM : M.1 3 0 0 = nI W) (hi : i < W) (hn' : n = i) (hX : WM W P H φ X) (hn : ∀ t, t < 2 ^ P → X.2.1 (13 + (W - 1 - i + 1)) t = nI (FN P H φ n (W - 1 - i + 1) (nI t))) : ∀ m, m ≤ 2 ^ P →
    (itN m (st_X1_weigh_56 M i b) X).1 = X.1 ∧ (itN m (st_X1_weigh_56 M i b) X).2.2 = X.2.2 ∧ (∀ c, c ≠ 13 + (W - 1 - i) → (itN m (st_X1_weigh_56 M i b) X).2.1 c = X.2.1 c) ∧ ∀ t, t < m → (itN m (st_X1_weigh_56 M i b) X).2.1 (13 + (W - 1 - i)) t = nI (FN P H φ (n + 1) (W - 1 - i) (nI t))
  | 0, _ => ⟨rfl, rfl, fun _ _ => rfl, fun t ht => absurd ht (Nat.not_lt_zero t)⟩
  | m + 1, hm => by
    obtain ⟨m1, m2, m3, m4⟩ := weigh1 (M := M) (b := b) hP hW hφ eM hi hn' hX hn m (by omega)
    rw [itN_s]
    generalize itN m (st_X1_weigh_56 M i b) X = Y at m1 m2 m3 m4 ⊢
    unfold st_X1_weigh_56
    rw [eM, show tn (nI W) = W from tn_nI (by omega), (tn_dn hi hW).2, (tn_dn hi hW).1]
    have hY : WM W P H φ Y := WM_of hX m1 (m3 4 (by omega))
    rw [e_mostF (n := n) hP hW hφ (by omega) hY (by omega) (show m < 2 ^ P by omega) (fun t ht => by rw [m3 _ (by omega)]; exact hn t ht)]
    refine ⟨m1, m2, fun c hc => (u2_ne hc).trans (m3 c hc), fun t ht => ?_⟩
    by_cases e : t = m
    · rw [e, u2_eq]
    · rw [u2_ie e]; exact m4 t (by omega)
theorem weigh_spec {X : MT} {W : Nat} (hP : P ≤ 8) (hW : W ≤ 8) (hφ : ∀ w p, φ w p ≤ 10) (hX : WM W P H φ X) :
    (sp_X1_weigh X).1 = X.1 ∧ (sp_X1_weigh X).2.2 = X.2.2 ∧ (∀ c, c < 13 → (sp_X1_weigh X).2.1 c = X.2.1 c) ∧ ∀ n w, w + n = W → ∀ t, t < 2 ^ P → (sp_X1_weigh X).2.1 (13 + w) t = nI (FN P H φ n w (nI t)) := by
  have eP : pw2 (X.1 3 1 0) = 2 ^ P := by unfold pw2; rw [hX.2.1, tn_nI (by omega)]
  have eW : tn (X.1 3 0 0) = W := by rw [hX.1, tn_nI (by omega)]
  unfold sp_X1_weigh
  rw [eP, eW]
  obtain ⟨z1, z2, z3, z4⟩ := weigh0 (M := X) hW hX.1 (2 ^ P)
  generalize itN (2 ^ P) (st_X1_weigh_14 X) X = Z at z1 z2 z3 z4 ⊢
  have key := itN_ind (f := st_X1_weigh_50 X) (b := Z) (fun i Y => Y.1 = X.1 ∧ Y.2.2 = X.2.2 ∧ (∀ c, c < 13 → Y.2.1 c = X.2.1 c) ∧ ∀ n w, w + n = W → n ≤ i → ∀ t, t < 2 ^ P → Y.2.1 (13 + w) t = nI (FN P H φ n w (nI t))) W ⟨z1, z2, fun c hc => z3 c (by omega), fun n w hw hn t ht => by
    obtain rfl : n = 0 := by omega
    obtain rfl : w = W := by omega
    exact z4 t ht⟩ (fun i Y hi hY => by
      obtain ⟨y1, y2, y3, y4⟩ := hY
      unfold st_X1_weigh_50
      rw [eP]
      have hYW : WM W P H φ Y := WM_of hX y1 (y3 4 (by omega))
      obtain ⟨m1, m2, m3, m4⟩ := weigh1 (M := X) (b := Y) (X := Y) (n := i) hP hW hφ hX.1 hi rfl hYW (fun t ht => y4 i _ (by omega) (Nat.le_refl _) t ht) (2 ^ P) (Nat.le_refl _)
      refine ⟨m1.trans y1, m2.trans y2, fun c hc => (m3 c (by omega)).trans (y3 c hc), fun n w hw hn t ht => ?_⟩
      by_cases e : n = i + 1
      · subst e
        obtain rfl : w = W - 1 - i := by omega
        exact m4 t ht
      · rw [m3 _ (by omega)]; exact y4 n w hw (by omega) t ht)
  exact ⟨key.1, key.2.1, key.2.2.1, fun n w hw t ht => key.2.2.2 n w hw (by omega) t ht⟩
/-- whom a window takes -/
theorem e_firstB {X : MT} {W w n t : Nat} (hP : P ≤ 8) (hW : W ≤ 8) (hφ : ∀ w p, φ w p ≤ 10) (hX : WM W P H φ X) (hw : w + (n + 1) = W) (ht : t < 2 ^ P) (hn : ∀ n w, w + n = W → ∀ t, t < 2 ^ P → X.2.1 (13 + w) t = nI (FN P H φ n w (nI t))) :
    sp_X1_firstBest X (nI w) (nI t) = CN P H φ n w (nI t) ∧ (CN P H φ n w (nI t) = -1 ∨ ∃ j, j < P ∧ CN P H φ n w (nI t) = nI j) := by
  have h8 : 2 ^ P ≤ 2 ^ 8 := Nat.pow_le_pow_right (by omega) hP
  have e8 : (2 : Nat) ^ 8 = 256 := rfl
  have b1 := FN_le (P := P) (H := H) hφ n (w + 1)
  have b0 := FN_le (P := P) (H := H) hφ (n + 1) w (nI t)
  have eF : FN P H φ (n + 1) w (nI t) = (optN H φ (fun v => FN P H φ n (w + 1) v) w (nI t) P).1 := rfl
  have eC : CN P H φ n w (nI t) = (optN H φ (fun v => FN P H φ n (w + 1) v) w (nI t) P).2 := rfl
  have hn1 := hn n (w + 1) (by omega)
  have ew := fun p (hp : p < P) => e_mostW hP hW hX (show w < W by omega) ht hp hn1
  have bw := fun p => hφ w p
  have bt := b1 (nI t)
  unfold sp_X1_firstBest
  rw [w_1 (by omega), show tn (nI t) = t from tn_nI (by omega), show tn (nI w) = w from tn_nI (by omega), hn1 t ht, hn (n + 1) w hw t ht, hX.2.1, show tn (nI P) = P from tn_nI (by omega), eC]
  rcases opt_cases (H := H) (φ := φ) (E := fun v => FN P H φ n (w + 1) v) (w := w) (u := nI t) P with ⟨h1, h2⟩ | ⟨j, h0, h1, h2, h3, h4, h5, h6⟩
  · rw [eF, h1, if_pos rfl]
    exact ⟨rfl, Or.inl rfl⟩
  · rw [h1] at eF
    rw [eF] at b0 ⊢
    rw [h1]
    have h4' : FN P H φ n (w + 1) (nI t) < φ w j + FN P H φ n (w + 1) (nI t ||| (1 <<< (nI j &&& 31))) := h4
    have inj : ∀ a b : Nat, a ≤ 1000 → b ≤ 1000 → nI a = nI b → a = b := fun a b ha hb q => by
      have := congrArg tn q
      rw [tn_nI (by omega), tn_nI (by omega)] at this
      exact this
    have bj := b1 (nI t ||| (1 <<< (nI j &&& 31)))
    have bwj := bw j
    refine ⟨?_, Or.inr ⟨j, h0, rfl⟩⟩
    rw [if_neg (fun q => by have := inj _ _ (by omega) (by show φ w j + FN P H φ n (w + 1) (nI t ||| (1 <<< (nI j &&& 31))) ≤ 1000; omega) q; omega)]
    have ok : ∀ p, p < P → (ps_X1_firstBest_40 X (nI w) (nI t) p = true ↔ H w p = true ∧ tb (nI t) p = false ∧ φ w p + FN P H φ n (w + 1) (nI t ||| (1 <<< (nI p &&& 31))) = φ w j + FN P H φ n (w + 1) (nI t ||| (1 <<< (nI j &&& 31)))) := fun p hp => by
      unfold ps_X1_firstBest_40
      rw [ew p hp, show tn (nI t) = t from tn_nI (by omega), show tn (nI w) = w from tn_nI (by omega), hn (n + 1) w hw t ht, eF]
      have hcp := hX.2.2.1 w p (by omega) hp
      have bp := b1 (nI t ||| (1 <<< (nI p &&& 31)))
      have bwp := bw p
      by_cases c : (((X.2.1 4 w) &&& ((nI t) ^^^ (-1))) >>> ((nI p) &&& 31)) &&& 1 = 0
      · rw [if_pos c]
        rw [can_0 (by omega), hcp] at c
        exact ⟨fun z => (by cases z), fun z => absurd ⟨z.1, z.2.1⟩ c⟩
      · rw [if_neg c]
        rw [can_0 (by omega), hcp] at c
        have c' := Classical.not_not.mp c
        by_cases d : φ w p + FN P H φ n (w + 1) (nI t ||| (1 <<< (nI p &&& 31))) = φ w j + FN P H φ n (w + 1) (nI t ||| (1 <<< (nI j &&& 31)))
        · rw [if_pos (congrArg nI d)]
          exact ⟨fun _ => ⟨c'.1, c'.2, d⟩, fun _ => rfl⟩
        · rw [if_neg (fun q => d (inj _ _ (by omega) (by omega) q))]
          exact ⟨fun z => (by cases z), fun z => absurd z.2.2 d⟩
    have okj := (ok j h0).mpr ⟨h2, h3, rfl⟩
    rw [fndN_hit P 0 j (Nat.zero_le _) (by omega) okj (fun k _ hk => by
      cases q : ps_X1_firstBest_40 X (nI w) (nI t) k
      · rfl
      · obtain ⟨q1, q2, q3⟩ := (ok k (by omega)).mp q
        have : φ w k + FN P H φ n (w + 1) (nI t ||| (1 <<< (nI k &&& 31))) < φ w j + FN P H φ n (w + 1) (nI t ||| (1 <<< (nI j &&& 31))) := h6 k hk q1 q2
        omega)]
    have okj' := okj
    unfold ps_X1_firstBest_40 at okj'
    rw [show tn (nI t) = t from tn_nI (by omega), show tn (nI w) = w from tn_nI (by omega), hn (n + 1) w hw t ht, eF] at okj'
    split at okj'
    · cases okj'
    · rename_i z
      rw [if_neg z]
      split at okj'
      · rename_i z2; rw [if_pos z2]
      · cases okj'
theorem choose_spec {X : MT} {W : Nat} (hP : P ≤ 8) (hW : W ≤ 8) (hφ : ∀ w p, φ w p ≤ 10) (hX : WM W P H φ X) (hn : ∀ n w, w + n = W → ∀ t, t < 2 ^ P → X.2.1 (13 + w) t = nI (FN P H φ n w (nI t))) :
    (sp_X1_choose X).1 = X.1 ∧ (sp_X1_choose X).2.2 = X.2.2 ∧ (∀ c, c ≠ 5 → (sp_X1_choose X).2.1 c = X.2.1 c) ∧ ∀ i, i < W → (sp_X1_choose X).2.1 5 i = GN P H φ W 0 0 i := by
  have eW : tn (X.1 3 0 0) = W := by rw [hX.1, tn_nI (by omega)]
  unfold sp_X1_choose
  rw [eW]
  have key := itN_ind (f := st_X1_choose_4 X) (b := (0, X)) (fun k b => b.2.1 = X.1 ∧ b.2.2.2 = X.2.2 ∧ (∀ c, c ≠ 5 → b.2.2.1 c = X.2.1 c) ∧ (∀ i, i < k → b.2.2.1 5 i = GN P H φ W 0 0 i) ∧ ∃ t, t < 2 ^ P ∧ b.1 = nI t ∧ ∀ i, k ≤ i → GN P H φ (W - k) k (nI t) i = GN P H φ W 0 0 i) W ⟨rfl, rfl, fun _ _ => rfl, fun i hi => absurd hi (Nat.not_lt_zero i), 0, Nat.two_pow_pos P, rfl, fun _ _ => rfl⟩ (fun k b hk hb => by
    obtain ⟨b1, b2, b3, b4, t, b5, b6, b7⟩ := hb
    have hY : WM W P H φ b.2 := WM_of hX b1 (b3 4 (by decide))
    obtain ⟨n, hn'⟩ : ∃ n, W - k = n + 1 := ⟨W - k - 1, by omega⟩
    obtain ⟨f1, f2⟩ := e_firstB (n := n) hP hW hφ hY (show k + (n + 1) = W by omega) b5 (fun n w hw t ht => by rw [b3 _ (by omega)]; exact hn n w hw t ht)
    rw [hn'] at b7
    have g0 : GN P H φ (n + 1) k (nI t) k = CN P H φ n k (nI t) := if_pos rfl
    have g1 : ∀ i, k + 1 ≤ i → GN P H φ (n + 1) k (nI t) i = GN P H φ n (k + 1) (addb (nI t) (CN P H φ n k (nI t))) i := fun i hi => if_neg (by omega)
    unfold st_X1_choose_4
    rw [u2_eq, b6, f1]
    generalize CN P H φ n k (nI t) = c at f2 g0 g1 ⊢
    have fr : (u2 b.2 5 k c).1 = X.1 ∧ (u2 b.2 5 k c).2.2 = X.2.2 ∧ (∀ d, d ≠ 5 → (u2 b.2 5 k c).2.1 d = X.2.1 d) ∧ (∀ i, i < k + 1 → (u2 b.2 5 k c).2.1 5 i = GN P H φ W 0 0 i) := by
      refine ⟨b1, b2, fun d hd => (u2_ne hd).trans (b3 d hd), fun i hi => ?_⟩
      by_cases e : i = k
      · rw [e, u2_eq, ← g0]; exact b7 k (Nat.le_refl _)
      · rw [u2_ie e]; exact b4 i (by omega)
    rw [show W - (k + 1) = n by omega]
    by_cases c1 : c = -1
    · rw [if_pos c1]
      refine ⟨fr.1, fr.2.1, fr.2.2.1, fr.2.2.2, t, b5, rfl, fun i hi => ?_⟩
      have := g1 i hi
      rw [c1, show addb (nI t) (-1) = nI t from if_pos rfl] at this
      rw [← this]; exact b7 i (by omega)
    · rw [if_neg c1]
      obtain ⟨j, hj, rfl⟩ := f2.resolve_left c1
      obtain ⟨o1, o2, _⟩ := or_in hP b5 hj
      refine ⟨fr.1, fr.2.1, fr.2.2.1, fr.2.2.2, t ||| 2 ^ j, o2, o1, fun i hi => ?_⟩
      have := g1 i hi
      rw [show addb (nI t) (nI j) = nI (t ||| 2 ^ j) from (if_neg c1).trans o1] at this
      rw [← this]; exact b7 i (by omega))
  exact ⟨key.1, key.2.1, key.2.2.1, fun i hi => key.2.2.2.1 i hi⟩
end Settle
