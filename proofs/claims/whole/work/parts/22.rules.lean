/-! what a test gives -/
theorem within_iff {a b c : Int32} : sp_X8_within a b c = true ↔ b ≤ a ∧ a ≤ c := by
  unfold sp_X8_within
  split
  · rename_i h; simp; intro q; exact absurd h (Int32.not_lt.mpr q)
  · rename_i h; split
    · rename_i h2; simp; intro _; exact h2
    · rename_i h2; simp; exact ⟨Int32.not_lt.mp h, Int32.not_lt.mp h2⟩
theorem bd_of {a x : Int32} {n : Nat} (hx : bd x (n + 1)) (h0 : 0 ≤ a) (h : a ≤ x - 1) : bd a n ∧ tn a < tn x := by
  have h1 : (0 : Int) ≤ a.toInt := by simpa using Int32.le_iff_toInt_le.mp h0
  have ex := bd_eq hx
  have hl := bd_lt hx
  have hs := tn_small x
  rcases Nat.eq_zero_or_pos (tn x) with z | z
  · rw [ex, z] at h
    have h2 := Int32.le_iff_toInt_le.mp h
    have : (nI 0 - 1 : Int32).toInt = -1 := by decide
    rw [this] at h2
    omega
  · have e2 : x - 1 = nI (tn x - 1) := by
      conv => lhs; rw [ex]
      obtain ⟨k, hk⟩ : ∃ k, tn x = k + 1 := ⟨tn x - 1, by omega⟩
      rw [hk, nI_pred]; simp
    rw [e2] at h
    have h2 := Int32.le_iff_toInt_le.mp h
    rw [nI_toInt (by omega)] at h2
    have h3 : tn a = a.toInt.toNat := rfl
    refine ⟨⟨fun q => absurd h0 (Int32.not_le.mpr q), ?_⟩, ?_⟩
    · show tn a < n
      omega
    · omega
theorem bd_in {a : Int32} {m n : Nat} (h0 : 0 ≤ a) (h : a ≤ nI m) (hm : m < 2147483648) (hn : m < n) : bd a n := by
  have h1 : (0 : Int) ≤ a.toInt := by simpa using Int32.le_iff_toInt_le.mp h0
  have h2 := Int32.le_iff_toInt_le.mp h
  rw [nI_toInt hm] at h2
  have h3 : tn a = a.toInt.toNat := rfl
  exact ⟨fun q => absurd h0 (Int32.not_le.mpr q), by show tn a < n; omega⟩
theorem hasW {M : MT} {s : Nat} {a : Int32} (h : bd (M.1 s 0 0) 9) (c : sp_X5_hasWindow M s a = true) : bd a 8 := by
  unfold sp_X5_hasWindow at c
  have := within_iff.mp c
  exact (bd_of h this.1 this.2).1
theorem hasWt {M : MT} {s : Nat} {a : Int32} (h : bd (M.1 s 0 0) 9) (c : sp_X5_hasWindow M s a = true) : tn a < tn (M.1 s 0 0) := by
  unfold sp_X5_hasWindow at c
  have := within_iff.mp c
  exact (bd_of h this.1 this.2).2
theorem hasP {M : MT} {s : Nat} {a : Int32} (h : bd (M.1 s 1 0) 9) (c : sp_X5_hasPerson M s a = true) : bd a 8 := by
  unfold sp_X5_hasPerson at c
  have := within_iff.mp c
  exact (bd_of h this.1 this.2).1
theorem hasPt {M : MT} {s : Nat} {a : Int32} (h : bd (M.1 s 1 0) 9) (c : sp_X5_hasPerson M s a = true) : tn a < tn (M.1 s 1 0) := by
  unfold sp_X5_hasPerson at c
  have := within_iff.mp c
  exact (bd_of h this.1 this.2).2
theorem isSh {a : Int32} (c : sp_X8_isShelf a = true) : bd a 8 := by
  unfold sp_X8_isShelf at c
  have := within_iff.mp c
  exact bd_in (m := 7) this.1 this.2 (by omega) (by omega)
theorem isKd {a : Int32} (c : sp_X8_isKind a = true) : bd a 6 := by
  unfold sp_X8_isKind at c
  have := within_iff.mp c
  exact bd_in (m := 5) this.1 this.2 (by omega) (by omega)
theorem wi_bd {a : Int32} {n : Nat} {x : Int32} (c : sp_X8_within a 0 x = true) (hx : x = nI n) (hn : n < 2147483648) : bd a (n + 1) := by
  have := within_iff.mp c
  exact bd_in (m := n) this.1 (by rw [← hx]; exact this.2) hn (by omega)
theorem roomW {M : MT} {s : Nat} (h : bd (M.1 s 0 0) 9) (c : sp_X5_hasRoomForWindow M s = true) : bd (M.1 s 0 0) 8 := by
  unfold sp_X5_hasRoomForWindow at c
  split at c
  · cases c
  · rename_i q
    rw [bd_eq h] at q ⊢
    have hl := bd_lt h
    have : ¬ 8 ≤ tn (M.1 s 0 0) := fun z => q (nI_le z (by omega))
    exact bd_nI (by omega) (by omega)
theorem roomP {M : MT} {s : Nat} (h : bd (M.1 s 1 0) 9) (c : sp_X5_hasRoomForPerson M s = true) : bd (M.1 s 1 0) 8 := by
  unfold sp_X5_hasRoomForPerson at c
  split at c
  · cases c
  · rename_i q
    rw [bd_eq h] at q ⊢
    have hl := bd_lt h
    have : ¬ 8 ≤ tn (M.1 s 1 0) := fun z => q (nI_le z (by omega))
    exact bd_nI (by omega) (by omega)
/-! invariants over writes -/
def OKa (M : MT) (s : Nat) : Prop := (∀ p, p < 8 → bd (M.1 s 9 p) 6) ∧ (∀ p, p < 8 → bd (M.1 s 11 p) 31)
theorem OKs_u2 {M : MT} {c i s : Nat} {v : Int32} (h : OKs M s) : OKs (u2 M c i v) s := h
theorem OKs_u3 {M : MT} {c i s : Nat} {v : Int64} (h : OKs M s) : OKs (u3 M c i v) s := h
theorem OKs_congr {M M' : MT} {s : Nat} (h : OKs M s) (e : M'.1 s = M.1 s) : OKs M' s := by unfold OKs at *; rw [e]; exact h
theorem u1_ne {M : MT} {s s' f i : Nat} {v : Int32} (h : s' ≠ s) : (u1 M s f i v).1 s' = M.1 s' := by
  funext b c
  exact if_neg (fun q => h q.1)
theorem OKs_ne {M : MT} {s s' f i : Nat} {v : Int32} (hne : s' ≠ s) (h : OKs M s') : OKs (u1 M s f i v) s' := OKs_congr h (u1_ne hne)
theorem u1_f {M : MT} {s f i f' i' : Nat} {v : Int32} (h : f' ≠ f) : (u1 M s f i v).1 s f' i' = M.1 s f' i' := if_neg (fun q => h q.2.1)
theorem u1_i {M : MT} {s f i i' : Nat} {v : Int32} (h : i' ≠ i) : (u1 M s f i v).1 s f i' = M.1 s f i' := if_neg (fun q => h q.2.2)
theorem u1_eq {M : MT} {s f i : Nat} {v : Int32} : (u1 M s f i v).1 s f i = v := if_pos ⟨rfl, rfl, rfl⟩
theorem OKs_wind {M : MT} {s : Nat} {v : Int32} (h : OKs M s) (hv : bd v 11) : OKs (u1 M s 3 0 v) s := by
  obtain ⟨h1, h2, h3, h4, h5, h6, h7, h8, h9, h10⟩ := h
  exact ⟨by rw [u1_f (by decide)]; exact h1, by rw [u1_f (by decide)]; exact h2, by rw [u1_f (by decide)]; exact h3, by rw [u1_eq]; exact hv, by rw [u1_i (by decide)]; exact h5, by rw [u1_i (by decide)]; exact h6,
    fun p hp => by rw [u1_f (by decide)]; exact h7 p hp, fun p hp => by rw [u1_f (by decide)]; exact h8 p hp,
    fun w hw => by rw [u1_f (by decide)] at hw; rw [u1_f (by decide), u1_f (by decide), u1_f (by decide), u1_f (by decide)]; exact h9 w hw,
    fun p hp => by rw [u1_f (by decide)] at hp; rw [u1_f (by decide), u1_f (by decide), u1_f (by decide), u1_f (by decide), u1_f (by decide), u1_f (by decide)]; exact h10 p hp⟩
theorem OKs_at {M : MT} {s p : Nat} {v : Int32} (h : OKs M s) (hv : bd v (tn (M.1 s 2 0))) : OKs (u1 M s 11 p v) s := by
  obtain ⟨h1, h2, h3, h4, h5, h6, h7, h8, h9, h10⟩ := h
  have hv2 : bd v 31 := bd_mono hv (Nat.le_of_lt (bd_lt h3.1))
  have key : ∀ q, (u1 M s 11 p v).1 s 11 q = v ∨ (u1 M s 11 p v).1 s 11 q = M.1 s 11 q := by
    intro q
    by_cases e : q = p
    · left; rw [e, u1_eq]
    · right; rw [u1_i e]
  refine ⟨by rw [u1_f (by decide)]; exact h1, by rw [u1_f (by decide)]; exact h2, by rw [u1_f (by decide)]; exact h3, by rw [u1_f (by decide)]; exact h4, by rw [u1_f (by decide)]; exact h5, by rw [u1_f (by decide)]; exact h6,
    fun p hp => by rw [u1_f (by decide)]; exact h7 p hp, fun q hq => ?_,
    fun w hw => by rw [u1_f (by decide)] at hw; rw [u1_f (by decide), u1_f (by decide), u1_f (by decide), u1_f (by decide)]; exact h9 w hw,
    fun q hq => ?_⟩
  · rcases key q with e | e
    · rw [e]; exact hv2
    · rw [e]; exact h8 q hq
  · rw [u1_f (by decide)] at hq
    have g := h10 q hq
    refine ⟨by rw [u1_f (by decide)]; exact g.1, ?_, by rw [u1_f (by decide), u1_f (by decide)]; exact g.2.2.1, by rw [u1_f (by decide)]; exact g.2.2.2.1, by rw [u1_f (by decide), u1_f (by decide)]; exact g.2.2.2.2⟩
    rw [u1_f (f' := 2) (by decide)]
    rcases key q with e | e
    · rw [e]; exact hv
    · rw [e]; exact g.2.1
