/-! ===== what is kept, and comes again ===== -/

theorem u2_at {M : MT} {c i j : Nat} {v : Int32} : (u2 M c i v).2.1 c j = if j = i then v else M.2.1 c j := by
  by_cases e : j = i
  · rw [e, u2_eq, if_pos rfl]
  · rw [u2_ie e, if_neg e]
theorem u1_at {M : MT} {s f i f' i' : Nat} {v : Int32} : (u1 M s f i v).1 s f' i' = if f' = f ∧ i' = i then v else M.1 s f' i' := by
  show (if s = s ∧ f' = f ∧ i' = i then v else M.1 s f' i') = _
  by_cases e : f' = f ∧ i' = i
  · rw [if_pos ⟨rfl, e⟩, if_pos e]
  · rw [if_neg (fun z => e z.2), if_neg e]
theorem tn_off {a k : Nat} (h : a + k < 1000) : tn (nI a + nI k) = a + k := by rw [nI_add, tn_nI (by omega)]
section Keep
variable {A B : MT}

theorem kpO_1 : ∀ k, k ≤ 8 → (itN k (st_X9_keepO_2 B) B).1 = B.1 ∧ (itN k (st_X9_keepO_2 B) B).2.2 = B.2.2 ∧ (∀ c, c ≠ 35 → (itN k (st_X9_keepO_2 B) B).2.1 c = B.2.1 c) ∧ ∀ g, g < 8 → ∀ i, i < k → (itN k (st_X9_keepO_2 B) B).2.1 35 (8 * g + i) = B.1 5 (6 + g) i
  | 0, _ => ⟨rfl, rfl, fun _ _ => rfl, fun _ _ i hi => absurd hi (Nat.not_lt_zero i)⟩
  | k + 1, hk => by
    obtain ⟨m1, m2, m3, m4⟩ := kpO_1 k (by omega)
    rw [itN_s]
    generalize itN k (st_X9_keepO_2 B) B = m at m1 m2 m3 m4 ⊢
    unfold st_X9_keepO_2
    rw [show tn (8 + nI k) = 8 + k from tn_off (a := 8) (by omega), show tn (16 + nI k) = 16 + k from tn_off (a := 16) (by omega), show tn (24 + nI k) = 24 + k from tn_off (a := 24) (by omega), show tn (32 + nI k) = 32 + k from tn_off (a := 32) (by omega), show tn (40 + nI k) = 40 + k from tn_off (a := 40) (by omega), show tn (48 + nI k) = 48 + k from tn_off (a := 48) (by omega), show tn (56 + nI k) = 56 + k from tn_off (a := 56) (by omega)]
    refine ⟨m1, m2, fun c hc => by rw [u2_ne hc, u2_ne hc, u2_ne hc, u2_ne hc, u2_ne hc, u2_ne hc, u2_ne hc, u2_ne hc]; exact m3 c hc, fun g hg i hi => ?_⟩
    simp only [u2_at, m1]
    rcases (show g = 0 ∨ g = 1 ∨ g = 2 ∨ g = 3 ∨ g = 4 ∨ g = 5 ∨ g = 6 ∨ g = 7 by omega) with rfl | rfl | rfl | rfl | rfl | rfl | rfl | rfl
    all_goals (repeat' split) <;> first | (exfalso; omega) | (rw [show i = k by omega]) | exact m4 _ (by omega) i (by omega)
theorem kpO_2 (M : MT) (b : MT) : ∀ k, k ≤ 3 → (itN k (st_X9_keepO_109 M) b).1 = b.1 ∧ (itN k (st_X9_keepO_109 M) b).2.2 = b.2.2 ∧ (∀ c, c ≠ 35 → (itN k (st_X9_keepO_109 M) b).2.1 c = b.2.1 c) ∧ ∀ j, (itN k (st_X9_keepO_109 M) b).2.1 35 j = if 64 ≤ j ∧ j < 64 + k then b.1 5 3 (j - 64) else b.2.1 35 j
  | 0, _ => ⟨rfl, rfl, fun _ _ => rfl, fun j => by rw [if_neg (by omega)]; rfl⟩
  | k + 1, hk => by
    obtain ⟨m1, m2, m3, m4⟩ := kpO_2 M b k (by omega)
    rw [itN_s]
    generalize itN k (st_X9_keepO_109 M) b = m at m1 m2 m3 m4 ⊢
    unfold st_X9_keepO_109
    rw [show tn (64 + nI k) = 64 + k from tn_off (a := 64) (by omega)]
    refine ⟨m1, m2, fun c hc => (u2_ne hc).trans (m3 c hc), fun j => ?_⟩
    rw [u2_at, m4, m1]
    by_cases e : j = 64 + k
    · rw [if_pos e, if_pos (by omega), e, show 64 + k - 64 = k by omega]
    · rw [if_neg e]
      by_cases c : 64 ≤ j ∧ j < 64 + k
      · rw [if_pos c, if_pos (by omega)]
      · rw [if_neg c, if_neg (by omega)]
theorem keepO_ne {c : Nat} (hc : c ≠ 35) : (sp_X9_keepO B).2.1 c = B.2.1 c := by
  obtain ⟨_, _, m3, _⟩ := kpO_1 (B := B) 8 (Nat.le_refl _)
  obtain ⟨_, _, n3, _⟩ := kpO_2 B (itN 8 (st_X9_keepO_2 B) B) 3 (Nat.le_refl _)
  unfold sp_X9_keepO
  rw [u2_ne hc, u2_ne hc, u2_ne hc, u2_ne hc, u2_ne hc, n3 c hc, m3 c hc]
theorem keepO_at {f i : Nat} (h : (f < 6 ∧ f ≠ 3 ∧ i = 0) ∨ (f = 3 ∧ i < 3) ∨ (6 ≤ f ∧ f < 14 ∧ i < 8)) : (sp_X9_keepO B).2.1 35 (oix f i) = B.1 5 f i := by
  obtain ⟨m1, _, _, m4⟩ := kpO_1 (B := B) 8 (Nat.le_refl _)
  obtain ⟨n1, _, _, n4⟩ := kpO_2 B (itN 8 (st_X9_keepO_2 B) B) 3 (Nat.le_refl _)
  unfold sp_X9_keepO
  generalize itN 3 (st_X9_keepO_109 B) (itN 8 (st_X9_keepO_2 B) B) = n at n1 n4 ⊢
  generalize itN 8 (st_X9_keepO_2 B) B = m at m1 m4 n1 n4
  simp only [u2_at, u2_1, n1, m1]
  rcases h with ⟨h1, h2, rfl⟩ | ⟨rfl, h2⟩ | ⟨h1, h2, h3⟩
  · rcases (show f = 0 ∨ f = 1 ∨ f = 2 ∨ f = 4 ∨ f = 5 by omega) with rfl | rfl | rfl | rfl | rfl <;> rfl
  · have e : oix 3 i = 64 + i := rfl
    rw [e, if_neg (by omega), if_neg (by omega), if_neg (by omega), if_neg (by omega), if_neg (by omega), n4, if_pos (by omega), m1, show 64 + i - 64 = i by omega]
  · have e : oix f i = 8 * (f - 6) + i := by
      unfold oix
      rw [if_neg (by omega), if_neg (by omega), if_neg (by omega), if_neg (by omega), if_neg (by omega), if_neg (by omega)]
    rw [e, if_neg (by omega), if_neg (by omega), if_neg (by omega), if_neg (by omega), if_neg (by omega), n4, if_neg (by omega), m4 (f - 6) (by omega) i h3, show 6 + (f - 6) = f by omega]
theorem agO_1 : ∀ k, k ≤ 8 → (∀ s, s ≠ 5 → (itN k (st_X9_againO_2 B) B).1 s = B.1 s) ∧ (itN k (st_X9_againO_2 B) B).2 = B.2 ∧ ∀ g, g < 8 → ∀ i, i < k → (itN k (st_X9_againO_2 B) B).1 5 (6 + g) i = B.2.1 35 (8 * g + i)
  | 0, _ => ⟨fun _ _ => rfl, rfl, fun _ _ i hi => absurd hi (Nat.not_lt_zero i)⟩
  | k + 1, hk => by
    obtain ⟨m1, m2, m3⟩ := agO_1 k (by omega)
    rw [itN_s]
    generalize itN k (st_X9_againO_2 B) B = m at m1 m2 m3 ⊢
    unfold st_X9_againO_2
    rw [show tn (8 + nI k) = 8 + k from tn_off (a := 8) (by omega), show tn (16 + nI k) = 16 + k from tn_off (a := 16) (by omega), show tn (24 + nI k) = 24 + k from tn_off (a := 24) (by omega), show tn (32 + nI k) = 32 + k from tn_off (a := 32) (by omega), show tn (40 + nI k) = 40 + k from tn_off (a := 40) (by omega), show tn (48 + nI k) = 48 + k from tn_off (a := 48) (by omega), show tn (56 + nI k) = 56 + k from tn_off (a := 56) (by omega)]
    refine ⟨fun s hs => by rw [u1_ne hs, u1_ne hs, u1_ne hs, u1_ne hs, u1_ne hs, u1_ne hs, u1_ne hs, u1_ne hs]; exact m1 s hs, m2, fun g hg i hi => ?_⟩
    simp only [u1_at, m2]
    rcases (show g = 0 ∨ g = 1 ∨ g = 2 ∨ g = 3 ∨ g = 4 ∨ g = 5 ∨ g = 6 ∨ g = 7 by omega) with rfl | rfl | rfl | rfl | rfl | rfl | rfl | rfl
    all_goals (repeat' split) <;> first | (exfalso; omega) | (rw [show i = k by omega]; done) | (rw [show i = k by omega, Nat.mul_zero, Nat.zero_add]) | exact m3 _ (by omega) i (by omega)
theorem agO_2 (M : MT) (b : MT) : ∀ k, k ≤ 3 → (∀ s, s ≠ 5 → (itN k (st_X9_againO_109 M) b).1 s = b.1 s) ∧ (itN k (st_X9_againO_109 M) b).2 = b.2 ∧ ∀ f i, (itN k (st_X9_againO_109 M) b).1 5 f i = if f = 3 ∧ i < k then b.2.1 35 (64 + i) else b.1 5 f i
  | 0, _ => ⟨fun _ _ => rfl, rfl, fun f i => by rw [if_neg (by omega)]; rfl⟩
  | k + 1, hk => by
    obtain ⟨m1, m2, m3⟩ := agO_2 M b k (by omega)
    rw [itN_s]
    generalize itN k (st_X9_againO_109 M) b = m at m1 m2 m3 ⊢
    unfold st_X9_againO_109
    rw [show tn (64 + nI k) = 64 + k from tn_off (a := 64) (by omega)]
    refine ⟨fun s hs => (u1_ne hs).trans (m1 s hs), m2, fun f i => ?_⟩
    rw [u1_at, m3, m2]
    by_cases e : f = 3 ∧ i = k
    · rw [if_pos e, if_pos (by omega), e.2]
    · rw [if_neg e]
      by_cases c : f = 3 ∧ i < k
      · rw [if_pos c, if_pos (by omega)]
      · rw [if_neg c, if_neg (by omega)]
theorem againO_2 : (sp_X9_againO B).2 = B.2 := by
  obtain ⟨_, m2, _⟩ := agO_1 (B := B) 8 (Nat.le_refl _)
  obtain ⟨_, n2, _⟩ := agO_2 B (itN 8 (st_X9_againO_2 B) B) 3 (Nat.le_refl _)
  have key : ∀ (X : MT) (f i : Nat) (v : Int32), (u1 X 5 f i v).2 = X.2 := fun _ _ _ _ => rfl
  unfold sp_X9_againO
  rw [key, key, key, key, key, n2, m2]
theorem againO_ne {s : Nat} (hs : s ≠ 5) : (sp_X9_againO B).1 s = B.1 s := by
  obtain ⟨m1, _, _⟩ := agO_1 (B := B) 8 (Nat.le_refl _)
  obtain ⟨n1, _, _⟩ := agO_2 B (itN 8 (st_X9_againO_2 B) B) 3 (Nat.le_refl _)
  unfold sp_X9_againO
  rw [u1_ne hs, u1_ne hs, u1_ne hs, u1_ne hs, u1_ne hs, n1 s hs, m1 s hs]
theorem againO_at {f i : Nat} (h : (f < 6 ∧ f ≠ 3 ∧ i = 0) ∨ (f = 3 ∧ i < 3) ∨ (6 ≤ f ∧ f < 14 ∧ i < 8)) : (sp_X9_againO B).1 5 f i = B.2.1 35 (oix f i) := by
  obtain ⟨_, m2, m3⟩ := agO_1 (B := B) 8 (Nat.le_refl _)
  obtain ⟨_, n2, n3⟩ := agO_2 B (itN 8 (st_X9_againO_2 B) B) 3 (Nat.le_refl _)
  unfold sp_X9_againO
  generalize itN 3 (st_X9_againO_109 B) (itN 8 (st_X9_againO_2 B) B) = n at n2 n3 ⊢
  generalize itN 8 (st_X9_againO_2 B) B = m at m2 m3 n2 n3
  simp only [u1_at, n2, m2]
  rcases h with ⟨h1, h2, rfl⟩ | ⟨rfl, h2⟩ | ⟨h1, h2, h3⟩
  · rcases (show f = 0 ∨ f = 1 ∨ f = 2 ∨ f = 4 ∨ f = 5 by omega) with rfl | rfl | rfl | rfl | rfl <;> rfl
  · have e : oix 3 i = 64 + i := rfl
    rw [e, if_neg (by omega), if_neg (by omega), if_neg (by omega), if_neg (by omega), if_neg (by omega), n3, if_pos (by omega), m2]
  · have e : oix f i = 8 * (f - 6) + i := by
      unfold oix
      rw [if_neg (by omega), if_neg (by omega), if_neg (by omega), if_neg (by omega), if_neg (by omega), if_neg (by omega)]
    have m4 := m3 (f - 6) (by omega) i h3
    rw [show 6 + (f - 6) = f by omega] at m4
    rw [e, if_neg (by omega), if_neg (by omega), if_neg (by omega), if_neg (by omega), if_neg (by omega), n3, if_neg (by omega), m4]

theorem kpB_1 : ∀ k, k ≤ 8 → (itN k (st_X9_keepB_2 B) B).1 = B.1 ∧ (itN k (st_X9_keepB_2 B) B).2.2 = B.2.2 ∧ (∀ c, c ≠ 36 → (itN k (st_X9_keepB_2 B) B).2.1 c = B.2.1 c) ∧ ∀ g, g < 8 → ∀ i, i < k → (itN k (st_X9_keepB_2 B) B).2.1 36 (8 * g + i) = B.1 5 (6 + g) i
  | 0, _ => ⟨rfl, rfl, fun _ _ => rfl, fun _ _ i hi => absurd hi (Nat.not_lt_zero i)⟩
  | k + 1, hk => by
    obtain ⟨m1, m2, m3, m4⟩ := kpB_1 k (by omega)
    rw [itN_s]
    generalize itN k (st_X9_keepB_2 B) B = m at m1 m2 m3 m4 ⊢
    unfold st_X9_keepB_2
    rw [show tn (8 + nI k) = 8 + k from tn_off (a := 8) (by omega), show tn (16 + nI k) = 16 + k from tn_off (a := 16) (by omega), show tn (24 + nI k) = 24 + k from tn_off (a := 24) (by omega), show tn (32 + nI k) = 32 + k from tn_off (a := 32) (by omega), show tn (40 + nI k) = 40 + k from tn_off (a := 40) (by omega), show tn (48 + nI k) = 48 + k from tn_off (a := 48) (by omega), show tn (56 + nI k) = 56 + k from tn_off (a := 56) (by omega)]
    refine ⟨m1, m2, fun c hc => by rw [u2_ne hc, u2_ne hc, u2_ne hc, u2_ne hc, u2_ne hc, u2_ne hc, u2_ne hc, u2_ne hc]; exact m3 c hc, fun g hg i hi => ?_⟩
    simp only [u2_at, m1]
    rcases (show g = 0 ∨ g = 1 ∨ g = 2 ∨ g = 3 ∨ g = 4 ∨ g = 5 ∨ g = 6 ∨ g = 7 by omega) with rfl | rfl | rfl | rfl | rfl | rfl | rfl | rfl
    all_goals (repeat' split) <;> first | (exfalso; omega) | (rw [show i = k by omega]) | exact m4 _ (by omega) i (by omega)
theorem kpB_2 (M : MT) (b : MT) : ∀ k, k ≤ 3 → (itN k (st_X9_keepB_109 M) b).1 = b.1 ∧ (itN k (st_X9_keepB_109 M) b).2.2 = b.2.2 ∧ (∀ c, c ≠ 36 → (itN k (st_X9_keepB_109 M) b).2.1 c = b.2.1 c) ∧ ∀ j, (itN k (st_X9_keepB_109 M) b).2.1 36 j = if 64 ≤ j ∧ j < 64 + k then b.1 5 3 (j - 64) else b.2.1 36 j
  | 0, _ => ⟨rfl, rfl, fun _ _ => rfl, fun j => by rw [if_neg (by omega)]; rfl⟩
  | k + 1, hk => by
    obtain ⟨m1, m2, m3, m4⟩ := kpB_2 M b k (by omega)
    rw [itN_s]
    generalize itN k (st_X9_keepB_109 M) b = m at m1 m2 m3 m4 ⊢
    unfold st_X9_keepB_109
    rw [show tn (64 + nI k) = 64 + k from tn_off (a := 64) (by omega)]
    refine ⟨m1, m2, fun c hc => (u2_ne hc).trans (m3 c hc), fun j => ?_⟩
    rw [u2_at, m4, m1]
    by_cases e : j = 64 + k
    · rw [if_pos e, if_pos (by omega), e, show 64 + k - 64 = k by omega]
    · rw [if_neg e]
      by_cases c : 64 ≤ j ∧ j < 64 + k
      · rw [if_pos c, if_pos (by omega)]
      · rw [if_neg c, if_neg (by omega)]
theorem keepB_ne {c : Nat} (hc : c ≠ 36) : (sp_X9_keepB B).2.1 c = B.2.1 c := by
  obtain ⟨_, _, m3, _⟩ := kpB_1 (B := B) 8 (Nat.le_refl _)
  obtain ⟨_, _, n3, _⟩ := kpB_2 B (itN 8 (st_X9_keepB_2 B) B) 3 (Nat.le_refl _)
  unfold sp_X9_keepB
  rw [u2_ne hc, u2_ne hc, u2_ne hc, u2_ne hc, u2_ne hc, n3 c hc, m3 c hc]
theorem keepB_at {f i : Nat} (h : (f < 6 ∧ f ≠ 3 ∧ i = 0) ∨ (f = 3 ∧ i < 3) ∨ (6 ≤ f ∧ f < 14 ∧ i < 8)) : (sp_X9_keepB B).2.1 36 (oix f i) = B.1 5 f i := by
  obtain ⟨m1, _, _, m4⟩ := kpB_1 (B := B) 8 (Nat.le_refl _)
  obtain ⟨n1, _, _, n4⟩ := kpB_2 B (itN 8 (st_X9_keepB_2 B) B) 3 (Nat.le_refl _)
  unfold sp_X9_keepB
  generalize itN 3 (st_X9_keepB_109 B) (itN 8 (st_X9_keepB_2 B) B) = n at n1 n4 ⊢
  generalize itN 8 (st_X9_keepB_2 B) B = m at m1 m4 n1 n4
  simp only [u2_at, u2_1, n1, m1]
  rcases h with ⟨h1, h2, rfl⟩ | ⟨rfl, h2⟩ | ⟨h1, h2, h3⟩
  · rcases (show f = 0 ∨ f = 1 ∨ f = 2 ∨ f = 4 ∨ f = 5 by omega) with rfl | rfl | rfl | rfl | rfl <;> rfl
  · have e : oix 3 i = 64 + i := rfl
    rw [e, if_neg (by omega), if_neg (by omega), if_neg (by omega), if_neg (by omega), if_neg (by omega), n4, if_pos (by omega), m1, show 64 + i - 64 = i by omega]
  · have e : oix f i = 8 * (f - 6) + i := by
      unfold oix
      rw [if_neg (by omega), if_neg (by omega), if_neg (by omega), if_neg (by omega), if_neg (by omega), if_neg (by omega)]
    rw [e, if_neg (by omega), if_neg (by omega), if_neg (by omega), if_neg (by omega), if_neg (by omega), n4, if_neg (by omega), m4 (f - 6) (by omega) i h3, show 6 + (f - 6) = f by omega]
theorem agB_1 : ∀ k, k ≤ 8 → (∀ s, s ≠ 5 → (itN k (st_X9_againB_2 B) B).1 s = B.1 s) ∧ (itN k (st_X9_againB_2 B) B).2 = B.2 ∧ ∀ g, g < 8 → ∀ i, i < k → (itN k (st_X9_againB_2 B) B).1 5 (6 + g) i = B.2.1 36 (8 * g + i)
  | 0, _ => ⟨fun _ _ => rfl, rfl, fun _ _ i hi => absurd hi (Nat.not_lt_zero i)⟩
  | k + 1, hk => by
    obtain ⟨m1, m2, m3⟩ := agB_1 k (by omega)
    rw [itN_s]
    generalize itN k (st_X9_againB_2 B) B = m at m1 m2 m3 ⊢
    unfold st_X9_againB_2
    rw [show tn (8 + nI k) = 8 + k from tn_off (a := 8) (by omega), show tn (16 + nI k) = 16 + k from tn_off (a := 16) (by omega), show tn (24 + nI k) = 24 + k from tn_off (a := 24) (by omega), show tn (32 + nI k) = 32 + k from tn_off (a := 32) (by omega), show tn (40 + nI k) = 40 + k from tn_off (a := 40) (by omega), show tn (48 + nI k) = 48 + k from tn_off (a := 48) (by omega), show tn (56 + nI k) = 56 + k from tn_off (a := 56) (by omega)]
    refine ⟨fun s hs => by rw [u1_ne hs, u1_ne hs, u1_ne hs, u1_ne hs, u1_ne hs, u1_ne hs, u1_ne hs, u1_ne hs]; exact m1 s hs, m2, fun g hg i hi => ?_⟩
    simp only [u1_at, m2]
    rcases (show g = 0 ∨ g = 1 ∨ g = 2 ∨ g = 3 ∨ g = 4 ∨ g = 5 ∨ g = 6 ∨ g = 7 by omega) with rfl | rfl | rfl | rfl | rfl | rfl | rfl | rfl
    all_goals (repeat' split) <;> first | (exfalso; omega) | (rw [show i = k by omega]; done) | (rw [show i = k by omega, Nat.mul_zero, Nat.zero_add]) | exact m3 _ (by omega) i (by omega)
theorem agB_2 (M : MT) (b : MT) : ∀ k, k ≤ 3 → (∀ s, s ≠ 5 → (itN k (st_X9_againB_109 M) b).1 s = b.1 s) ∧ (itN k (st_X9_againB_109 M) b).2 = b.2 ∧ ∀ f i, (itN k (st_X9_againB_109 M) b).1 5 f i = if f = 3 ∧ i < k then b.2.1 36 (64 + i) else b.1 5 f i
  | 0, _ => ⟨fun _ _ => rfl, rfl, fun f i => by rw [if_neg (by omega)]; rfl⟩
  | k + 1, hk => by
    obtain ⟨m1, m2, m3⟩ := agB_2 M b k (by omega)
    rw [itN_s]
    generalize itN k (st_X9_againB_109 M) b = m at m1 m2 m3 ⊢
    unfold st_X9_againB_109
    rw [show tn (64 + nI k) = 64 + k from tn_off (a := 64) (by omega)]
    refine ⟨fun s hs => (u1_ne hs).trans (m1 s hs), m2, fun f i => ?_⟩
    rw [u1_at, m3, m2]
    by_cases e : f = 3 ∧ i = k
    · rw [if_pos e, if_pos (by omega), e.2]
    · rw [if_neg e]
      by_cases c : f = 3 ∧ i < k
      · rw [if_pos c, if_pos (by omega)]
      · rw [if_neg c, if_neg (by omega)]
theorem againB_2 : (sp_X9_againB B).2 = B.2 := by
  obtain ⟨_, m2, _⟩ := agB_1 (B := B) 8 (Nat.le_refl _)
  obtain ⟨_, n2, _⟩ := agB_2 B (itN 8 (st_X9_againB_2 B) B) 3 (Nat.le_refl _)
  have key : ∀ (X : MT) (f i : Nat) (v : Int32), (u1 X 5 f i v).2 = X.2 := fun _ _ _ _ => rfl
  unfold sp_X9_againB
  rw [key, key, key, key, key, n2, m2]
theorem againB_ne {s : Nat} (hs : s ≠ 5) : (sp_X9_againB B).1 s = B.1 s := by
  obtain ⟨m1, _, _⟩ := agB_1 (B := B) 8 (Nat.le_refl _)
  obtain ⟨n1, _, _⟩ := agB_2 B (itN 8 (st_X9_againB_2 B) B) 3 (Nat.le_refl _)
  unfold sp_X9_againB
  rw [u1_ne hs, u1_ne hs, u1_ne hs, u1_ne hs, u1_ne hs, n1 s hs, m1 s hs]
theorem againB_at {f i : Nat} (h : (f < 6 ∧ f ≠ 3 ∧ i = 0) ∨ (f = 3 ∧ i < 3) ∨ (6 ≤ f ∧ f < 14 ∧ i < 8)) : (sp_X9_againB B).1 5 f i = B.2.1 36 (oix f i) := by
  obtain ⟨_, m2, m3⟩ := agB_1 (B := B) 8 (Nat.le_refl _)
  obtain ⟨_, n2, n3⟩ := agB_2 B (itN 8 (st_X9_againB_2 B) B) 3 (Nat.le_refl _)
  unfold sp_X9_againB
  generalize itN 3 (st_X9_againB_109 B) (itN 8 (st_X9_againB_2 B) B) = n at n2 n3 ⊢
  generalize itN 8 (st_X9_againB_2 B) B = m at m2 m3 n2 n3
  simp only [u1_at, n2, m2]
  rcases h with ⟨h1, h2, rfl⟩ | ⟨rfl, h2⟩ | ⟨h1, h2, h3⟩
  · rcases (show f = 0 ∨ f = 1 ∨ f = 2 ∨ f = 4 ∨ f = 5 by omega) with rfl | rfl | rfl | rfl | rfl <;> rfl
  · have e : oix 3 i = 64 + i := rfl
    rw [e, if_neg (by omega), if_neg (by omega), if_neg (by omega), if_neg (by omega), if_neg (by omega), n3, if_pos (by omega), m2]
  · have e : oix f i = 8 * (f - 6) + i := by
      unfold oix
      rw [if_neg (by omega), if_neg (by omega), if_neg (by omega), if_neg (by omega), if_neg (by omega), if_neg (by omega)]
    have m4 := m3 (f - 6) (by omega) i h3
    rw [show 6 + (f - 6) = f by omega] at m4
    rw [e, if_neg (by omega), if_neg (by omega), if_neg (by omega), if_neg (by omega), if_neg (by omega), n3, if_neg (by omega), m4]

/-- a street, read by the places of what is kept -/
theorem AG_oix {V W : Nat → Nat → Int32} (hw : bd (V 0 0) 9) (hp : bd (V 1 0) 9) (h : ∀ f i, ((f < 6 ∧ f ≠ 3 ∧ i = 0) ∨ (f = 3 ∧ i < 3) ∨ (6 ≤ f ∧ f < 14 ∧ i < 8)) → V f i = W f i) : AG V W := by
  have h1 := bd_lt hw
  have h2 := bd_lt hp
  exact ⟨fun f h6 h3 => h f 0 (Or.inl ⟨h6, h3, rfl⟩), fun i hi => h 3 i (Or.inr (Or.inl ⟨rfl, hi⟩)), fun f w h6 h9 hw => h f w (Or.inr (Or.inr ⟨h6, by omega, by omega⟩)), fun f p h9 h14 hp => h f p (Or.inr (Or.inr ⟨by omega, h14, by omega⟩))⟩
theorem sim_image (hx : OKX A) (hr : R2 A B) : SR (sp_X8_image A) (sp_X9_image B) := by
  obtain ⟨x0, x1, x2, x3, x4, x5, x6⟩ := hx
  obtain ⟨r1, r2, r3, r4, r5⟩ := hr
  have ne : ∀ t, t ≠ 1 → (cpM A 1 0).1 t = A.1 t := fun t ht => cp_ne ht
  have hw : bd (B.1 5 0 0) 9 := by rw [← r1.wc]; exact x0.1
  have hp : bd (B.1 5 1 0) 9 := by rw [← r1.pc]; exact x0.2.1
  unfold sp_X8_image sp_X9_image
  have k30 : ∀ c, c ≠ 35 → c ≠ 30 → (sp_X9_keepO (u2 B 30 5 1)).2.1 c = B.2.1 c := fun c h h2 => (keepO_ne h).trans (u2_ne h2)
  have k30i : ∀ i, i ≠ 5 → (sp_X9_keepO (u2 B 30 5 1)).2.1 30 i = B.2.1 30 i := fun i h => (congrFun (keepO_ne (by decide)) i).trans (u2_ie h)
  have k305 : (sp_X9_keepO (u2 B 30 5 1)).2.1 30 5 = 1 := (congrFun (keepO_ne (by decide)) 5).trans u2_eq
  have k1 : (sp_X9_keepO (u2 B 30 5 1)).1 = B.1 := keepO_1
  have kJ : (sp_X9_keepO (u2 B 30 5 1)).2.2 = B.2.2 := keepO_J
  have kA : ∀ f i, ((f < 6 ∧ f ≠ 3 ∧ i = 0) ∨ (f = 3 ∧ i < 3) ∨ (6 ≤ f ∧ f < 14 ∧ i < 8)) → (sp_X9_keepO (u2 B 30 5 1)).2.1 35 (oix f i) = B.1 5 f i := fun f i h => keepO_at h
  generalize sp_X9_keepO (u2 B 30 5 1) = y at k30 k30i k305 k1 kJ kA ⊢
  refine ⟨rfl, ⟨OKs_congr x0 (ne 0 (by decide)), OKs_copy2 (by decide) x0 (OKa_of x1), OKa_eq x2 (ne 2 (by decide)), OKa_eq x3 (ne 3 (by decide)), OKa_eq x4 (ne 4 (by decide)), ?_, x6⟩, ?_, ?_, ?_, ?_, ?_⟩
  · show ∀ t, t < 8 → bd (A.2.1 12 t) 41 ∧ bd (A.2.1 11 t) 5 ∧ (A.2.1 9 t = 0 ∨ A.2.1 9 t = 1) ∧ (A.2.1 10 t = -1 ∨ (A.2.1 9 t = 0 ∧ bd (A.2.1 10 t) 8 ∧ tn (A.2.1 10 t) < tn ((cpM A 1 0).1 0 1 0)))
    rw [ne 0 (by decide)]; exact x5
  · show AG ((cpM A 1 0).1 0) (y.1 5)
    rw [ne 0 (by decide), k1]; exact r1
  · intro t ht
    show bd (y.2.1 33 t) 41 ∧ _
    rw [k30 33 (by decide) (by decide), k30 32 (by decide) (by decide), kJ]
    exact r2 t ht
  · refine ⟨?_, fun i hi => ?_⟩
    · show A.2.1 6 0 = _
      rw [k30i 0 (by decide)]; exact r3.1
    · show A.2.1 7 i = _
      rw [k30 31 (by decide) (by decide)]; exact r3.2 i hi
  · intro j hj
    show A.2.1 1 j = _
    rw [k30 34 (by decide) (by decide)]; exact r4 j hj
  · refine ⟨?_, fun _ => ?_⟩
    · show (1 : Int32) = _
      rw [k305]
    · show AG ((cpM A 1 0).1 1) _
      exact AG_cp.trans (r1.trans (AG_oix hw hp (fun f i h => (kA f i h).symm)))
theorem bk_spec {M : MT} : ∀ k, k ≤ 8 → (itN k (st_X8_back_27 M) A).1 = A.1 ∧ (itN k (st_X8_back_27 M) A).2.2 = A.2.2 ∧ (∀ c, c ≠ 9 → c ≠ 10 → (itN k (st_X8_back_27 M) A).2.1 c = A.2.1 c) ∧
    (∀ t, (t < k → ((itN k (st_X8_back_27 M) A).2.1 9 t = (if A.2.1 10 t < A.1 0 1 0 then A.2.1 9 t else 0) ∧ (itN k (st_X8_back_27 M) A).2.1 10 t = (if A.2.1 10 t < A.1 0 1 0 then A.2.1 10 t else -1))) ∧ (k ≤ t → (itN k (st_X8_back_27 M) A).2.1 9 t = A.2.1 9 t ∧ (itN k (st_X8_back_27 M) A).2.1 10 t = A.2.1 10 t))
  | 0, _ => ⟨rfl, rfl, fun _ _ _ => rfl, fun t => ⟨fun h => absurd h (Nat.not_lt_zero t), fun _ => ⟨rfl, rfl⟩⟩⟩
  | k + 1, hk => by
    obtain ⟨m1, m2, m3, m4⟩ := bk_spec (M := M) k (by omega)
    rw [itN_s]
    generalize itN k (st_X8_back_27 M) A = m at m1 m2 m3 m4 ⊢
    unfold st_X8_back_27 sp_X4_takePerson
    rw [((m4 k).2 (Nat.le_refl _)).2, m1]
    by_cases c : A.2.1 10 k < A.1 0 1 0
    · rw [if_pos c]
      refine ⟨m1, m2, m3, fun t => ⟨fun h => ?_, fun h => (m4 t).2 (by omega)⟩⟩
      by_cases e : t = k
      · subst e
        rw [if_pos c, if_pos c]; exact (m4 t).2 (Nat.le_refl _)
      · exact (m4 t).1 (by omega)
    · rw [if_neg c]
      refine ⟨m1, m2, fun d h9 h10 => (u2_ne h10).trans ((u2_ne h9).trans (m3 d h9 h10)), fun t => ⟨fun h => ?_, fun h => ?_⟩⟩
      · by_cases e : t = k
        · subst e
          rw [if_neg c, if_neg c, u2_ni (by omega), u2_eq, u2_eq]
          exact ⟨rfl, rfl⟩
        · rw [u2_ni (by omega), u2_ie e, u2_ie e, u2_ni (by omega)]
          exact (m4 t).1 (by omega)
      · rw [u2_ni (by omega), u2_ie (by omega), u2_ie (by omega), u2_ni (by omega)]
        exact (m4 t).2 (by omega)
theorem bk9_spec {M : MT} : ∀ k, k ≤ 8 → (itN k (st_X9_back_24 M) B).1 = B.1 ∧ (itN k (st_X9_back_24 M) B).2.2 = B.2.2 ∧ (∀ c, c ≠ 32 → (itN k (st_X9_back_24 M) B).2.1 c = B.2.1 c) ∧
    (∀ t, (t < k → (itN k (st_X9_back_24 M) B).2.1 32 t = (if B.2.1 32 t < 10 + B.1 5 1 0 then B.2.1 32 t else -1)) ∧ (k ≤ t → (itN k (st_X9_back_24 M) B).2.1 32 t = B.2.1 32 t))
  | 0, _ => ⟨rfl, rfl, fun _ _ => rfl, fun t => ⟨fun h => absurd h (Nat.not_lt_zero t), fun _ => rfl⟩⟩
  | k + 1, hk => by
    obtain ⟨m1, m2, m3, m4⟩ := bk9_spec (M := M) k (by omega)
    rw [itN_s]
    generalize itN k (st_X9_back_24 M) B = m at m1 m2 m3 m4 ⊢
    unfold st_X9_back_24
    rw [(m4 k).2 (Nat.le_refl _), m1]
    by_cases c : B.2.1 32 k < 10 + B.1 5 1 0
    · rw [if_pos c]
      refine ⟨m1, m2, m3, fun t => ⟨fun h => ?_, fun h => (m4 t).2 (by omega)⟩⟩
      by_cases e : t = k
      · subst e
        rw [if_pos c]; exact (m4 t).2 (Nat.le_refl _)
      · exact (m4 t).1 (by omega)
    · rw [if_neg c]
      refine ⟨m1, m2, fun d h => (u2_ne h).trans (m3 d h), fun t => ⟨fun h => ?_, fun h => ?_⟩⟩
      · by_cases e : t = k
        · subst e
          rw [if_neg c, u2_eq]
        · rw [u2_ie e]; exact (m4 t).1 (by omega)
      · rw [u2_ie (by omega)]; exact (m4 t).2 (by omega)
theorem sim_back (hx : OKX A) (hr : R2 A B) : SR (sp_X8_back A) (sp_X9_back B) := by
  have hx' := hx
  have hr' := hr
  obtain ⟨x0, x1, x2, x3, x4, x5, x6⟩ := hx
  obtain ⟨r1, r2, r3, r4, r5⟩ := hr
  unfold sp_X8_back sp_X9_back
  rw [← r5.1]
  by_cases c : A.2.1 0 0 = 0
  · rw [if_pos c, if_pos c]; exact sr_no hx' hr' (by decide)
  · rw [if_neg c, if_neg c]
    have ko := r5.2 c
    have ne : ∀ t, t ≠ 0 → (cpM A 0 1).1 t = A.1 t := fun t ht => cp_ne ht
    have ok0 : OKs (cpM A 0 1) 0 := OKs_copy2 (by decide) x1 (OKa_of x0)
    have ag0 : AG ((cpM A 0 1).1 0) (A.1 1) := AG_cp
    have agB : AG (A.1 1) ((sp_X9_againO B).1 5) := by
      refine ko.trans (AG_oix ?_ ?_ (fun f i h => (againO_at h).symm))
      · rw [← ko.wc]; exact x1.1
      · rw [← ko.pc]; exact x1.2.1
    have b2 : (sp_X9_againO B).2 = B.2 := againO_2
    have e2 : (cpM A 0 1).2 = A.2 := rfl
    generalize cpM A 0 1 = C at ne ok0 ag0 e2 ⊢
    generalize sp_X9_againO B = D at agB b2 ⊢
    have ag := ag0.trans agB
    obtain ⟨m1, m2, m3, m4⟩ := bk_spec (A := C) (M := A) 8 (Nat.le_refl _)
    obtain ⟨n1, n2, n3, n4⟩ := bk9_spec (B := D) (M := B) 8 (Nat.le_refl _)
    generalize itN 8 (st_X8_back_27 A) C = x at m1 m2 m3 m4 ⊢
    generalize itN 8 (st_X9_back_24 B) D = y at n1 n2 n3 n4 ⊢
    rw [e2] at m2 m3 m4
    rw [b2] at n2 n3 n4
    have hp := ok0.2.1
    have hpl := bd_lt hp
    have ep := bd_eq hp
    refine ⟨rfl, ⟨OKs_congr ok0 (by rw [m1]), OKs_congr x1 (by rw [m1]; exact ne 1 (by decide)), OKa_eq x2 (by rw [m1]; exact ne 2 (by decide)), OKa_eq x3 (by rw [m1]; exact ne 3 (by decide)), OKa_eq x4 (by rw [m1]; exact ne 4 (by decide)), fun t ht => ?_, ?_⟩, ?_, fun t ht => ?_, ?_, fun j hj => ?_, ?_⟩
    · obtain ⟨k1, k2, k3, k4⟩ := x5 t ht
      obtain ⟨q9, q10⟩ := (m4 t).1 ht
      show bd (x.2.1 12 t) 41 ∧ bd (x.2.1 11 t) 5 ∧ (x.2.1 9 t = 0 ∨ x.2.1 9 t = 1) ∧ (x.2.1 10 t = -1 ∨ (x.2.1 9 t = 0 ∧ bd (x.2.1 10 t) 8 ∧ tn (x.2.1 10 t) < tn (x.1 0 1 0)))
      rw [m3 12 (by decide) (by decide), m3 11 (by decide) (by decide), q9, q10, m1]
      by_cases d : A.2.1 10 t < C.1 0 1 0
      · rw [if_pos d, if_pos d]
        refine ⟨k1, k2, k3, k4.imp id (fun ⟨a, b, _⟩ => ⟨a, b, ?_⟩)⟩
        rw [bd_eq b, ep] at d
        exact (nI_ltI (by have := bd_lt b; omega) (by omega)).mp d
      · rw [if_neg d, if_neg d]
        exact ⟨k1, k2, Or.inl rfl, Or.inl rfl⟩
    · show bd (x.2.1 6 0) 251
      rw [m3 6 (by decide) (by decide)]; exact x6
    · show AG (x.1 0) (y.1 5)
      rw [m1, n1]; exact ag
    · show SH1 x y t
      obtain ⟨k1, k2, k3, k4⟩ := x5 t ht
      obtain ⟨q9, q10⟩ := (m4 t).1 ht
      have q32 := (n4 t).1 ht
      obtain ⟨g1, g2, g3⟩ := r2 t ht
      unfold SH1
      rw [q9, q10, q32, m3 11 (by decide) (by decide), m3 12 (by decide) (by decide), n3 33 (by decide), m2, n2, ← ag.pc]
      have e10 : ∀ j, j < 1000 → (10 : Int32) + nI j = nI (10 + j) := fun j _ => nI_add 10 _
      by_cases z : A.2.1 9 t = 0
      · have h32 := g2 z
        by_cases z2 : A.2.1 10 t = -1
        · rw [if_pos z2] at h32
          have d : A.2.1 10 t < C.1 0 1 0 := by rw [z2]; exact Int32.lt_of_lt_of_le (by decide) (Int32.not_lt.mp hp.1)
          have d2 : B.2.1 32 t < 10 + C.1 0 1 0 := by
            rw [h32, ep, e10 _ (by omega)]
            exact Int32.lt_of_lt_of_le (by decide) (nI_pos' (n := 10 + tn (C.1 0 1 0)) (by omega))
          rw [if_pos d, if_pos d, if_pos d2]
          exact ⟨g1, g2, g3⟩
        · rw [if_neg z2] at h32
          obtain ⟨_, b8, _⟩ := k4.resolve_left z2
          have bl := bd_lt b8
          have be := bd_eq b8
          have iff1 : A.2.1 10 t < C.1 0 1 0 ↔ B.2.1 32 t < 10 + C.1 0 1 0 := by
            rw [h32, be, ep, e10 _ (by omega), e10 _ (by omega), nI_ltI (by omega) (by omega), nI_ltI (by omega) (by omega)]
            omega
          by_cases d : A.2.1 10 t < C.1 0 1 0
          · rw [if_pos d, if_pos d, if_pos (iff1.mp d)]
            exact ⟨g1, g2, g3⟩
          · rw [if_neg d, if_neg d, if_neg (fun w => d (iff1.mpr w))]
            exact ⟨g1, fun _ => by rw [if_pos rfl], fun w => absurd rfl w⟩
      · have p1 := k4.resolve_right (fun w => z w.1)
        have h32 := (g3 z).1
        have d : A.2.1 10 t < C.1 0 1 0 := by rw [p1]; exact Int32.lt_of_lt_of_le (by decide) (Int32.not_lt.mp hp.1)
        have d2 : B.2.1 32 t < 10 + C.1 0 1 0 := by
          have kl := bd_lt k2
          rw [h32, ep, bd_eq k2, e10 _ (by omega)]
          exact nI_lt (by omega) (by omega)
        rw [if_pos d, if_pos d, if_pos d2]
        exact ⟨g1, g2, g3⟩
    · refine ⟨?_, fun i hi => ?_⟩
      · rw [m3 6 (by decide) (by decide), n3 30 (by decide)]; exact r3.1
      · rw [m3 6 (by decide) (by decide)] at hi
        rw [m3 7 (by decide) (by decide), n3 31 (by decide)]; exact r3.2 i hi
    · rw [m3 1 (by decide) (by decide), n3 34 (by decide)]; exact r4 j hj
    · refine ⟨?_, fun q => ?_⟩
      · rw [m3 0 (by decide) (by decide), n3 30 (by decide)]; exact r5.1
      · show AG (x.1 1) (oldV y)
        unfold oldV
        rw [m1, ne 1 (by decide), n3 35 (by decide)]; exact ko
end Keep
