theorem OKs_other {M : MT} {s f i : Nat} {v : Int32} (hf : f = 4 ∨ f = 5) (h : OKs M s) : OKs (u1 M s f i v) s := by
  have e : ∀ f' i', f' ≠ 4 → f' ≠ 5 → (u1 M s f i v).1 s f' i' = M.1 s f' i' := fun f' i' h4 h5 => u1_f (by rcases hf with rfl | rfl <;> assumption)
  obtain ⟨h1, h2, h3, h4, h5, h6, h7, h8, h9, h10⟩ := h
  exact ⟨by rw [e _ _ (by decide) (by decide)]; exact h1, by rw [e _ _ (by decide) (by decide)]; exact h2, by rw [e _ _ (by decide) (by decide)]; exact h3, by rw [e _ _ (by decide) (by decide)]; exact h4, by rw [e _ _ (by decide) (by decide)]; exact h5, by rw [e _ _ (by decide) (by decide)]; exact h6,
    fun p hp => by rw [e _ _ (by decide) (by decide)]; exact h7 p hp, fun p hp => by rw [e _ _ (by decide) (by decide)]; exact h8 p hp,
    fun w hw => by rw [e _ _ (by decide) (by decide)] at hw; rw [e _ _ (by decide) (by decide), e _ _ (by decide) (by decide), e _ _ (by decide) (by decide), e _ _ (by decide) (by decide)]; exact h9 w hw,
    fun p hp => by rw [e _ _ (by decide) (by decide)] at hp; rw [e _ _ (by decide) (by decide), e _ _ (by decide) (by decide), e _ _ (by decide) (by decide), e _ _ (by decide) (by decide), e _ _ (by decide) (by decide), e _ _ (by decide) (by decide)]; exact h10 p hp⟩
theorem OKs_day {M : MT} {s i : Nat} {v : Int32} (hi : i = 1 ∨ i = 2) (hv : bd v 1000) (h : OKs M s) : OKs (u1 M s 3 i v) s := by
  obtain ⟨h1, h2, h3, h4, h5, h6, h7, h8, h9, h10⟩ := h
  refine ⟨by rw [u1_f (by decide)]; exact h1, by rw [u1_f (by decide)]; exact h2, by rw [u1_f (by decide)]; exact h3, by rw [u1_i (by rcases hi with rfl | rfl <;> decide)]; exact h4, ?_, ?_,
    fun p hp => by rw [u1_f (by decide)]; exact h7 p hp, fun p hp => by rw [u1_f (by decide)]; exact h8 p hp,
    fun w hw => by rw [u1_f (by decide)] at hw; rw [u1_f (by decide), u1_f (by decide), u1_f (by decide), u1_f (by decide)]; exact h9 w hw,
    fun p hp => by rw [u1_f (by decide)] at hp; rw [u1_f (by decide), u1_f (by decide), u1_f (by decide), u1_f (by decide), u1_f (by decide), u1_f (by decide)]; exact h10 p hp⟩
  · rcases hi with rfl | rfl
    · rw [u1_eq]; exact hv
    · rw [u1_i (by decide)]; exact h5
  · rcases hi with rfl | rfl
    · rw [u1_i (by decide)]; exact h6
    · rw [u1_eq]; exact hv
theorem OKs_rd {M : MT} {s p : Nat} {r v : Int32} (hr : r = -1 ∨ bd r (tn (M.1 s 0 0))) (hv : v = -1 ∨ bd v 1000) (hrv : r = -1 → v = -1) (h : OKs M s) : OKs (u1 (u1 M s 12 p r) s 13 p v) s := by
  have e : ∀ f' i', f' ≠ 12 → f' ≠ 13 → (u1 (u1 M s 12 p r) s 13 p v).1 s f' i' = M.1 s f' i' := fun f' i' h4 h5 => by rw [u1_f h5, u1_f h4]
  obtain ⟨h1, h2, h3, h4, h5, h6, h7, h8, h9, h10⟩ := h
  refine ⟨by rw [e _ _ (by decide) (by decide)]; exact h1, by rw [e _ _ (by decide) (by decide)]; exact h2, by rw [e _ _ (by decide) (by decide)]; exact h3, by rw [e _ _ (by decide) (by decide)]; exact h4, by rw [e _ _ (by decide) (by decide)]; exact h5, by rw [e _ _ (by decide) (by decide)]; exact h6,
    fun p hp => by rw [e _ _ (by decide) (by decide)]; exact h7 p hp, fun p hp => by rw [e _ _ (by decide) (by decide)]; exact h8 p hp,
    fun w hw => by rw [e _ _ (by decide) (by decide)] at hw; rw [e _ _ (by decide) (by decide), e _ _ (by decide) (by decide), e _ _ (by decide) (by decide), e _ _ (by decide) (by decide)]; exact h9 w hw,
    fun q hq => ?_⟩
  rw [e _ _ (by decide) (by decide)] at hq
  have g := h10 q hq
  rw [e 10 q (by decide) (by decide), e 11 q (by decide) (by decide), e 2 0 (by decide) (by decide), e 0 0 (by decide) (by decide)]
  refine ⟨g.1, g.2.1, ?_⟩
  rw [u1_f (f' := 12) (by decide)]
  by_cases hp : q = p
  · subst hp
    rw [u1_eq, u1_eq]
    exact ⟨hr, hv, hrv⟩
  · rw [u1_i hp, u1_i hp, u1_f (by decide)]
    exact g.2.2
theorem tn_lt {x : Int32} {n : Nat} (h : bd x n) (hn : n ≤ 2147483648) {k : Nat} (hk : k ≤ 2147483647) (hc : x < nI k) : tn x < k := by
  rw [bd_eq h] at hc
  exact (nI_ltI (by have := tn_small x; omega) (by omega)).mp hc
theorem cB_bd {M : MT} {s : Nat} {a b : Int32} (h : bd (M.1 s 1 0) 9) : sp_X5_catcherBut M s a b = -1 ∨ bd (sp_X5_catcherBut M s a b) 8 := by
  have hl := bd_lt h
  unfold sp_X5_catcherBut
  split
  · exact itN_inv (fun x => x = -1 ∨ bd x 8) _ (Or.inl rfl) (fun k b hk hb => by unfold st_X5_catcherBut_15; (repeat' split) <;> first | exact hb | exact Or.inr (bd_nI (by omega) (Nat.le_of_ble_eq_true rfl)))
  · exact Or.inl rfl
theorem cO_bd {M : MT} {s : Nat} {a b c : Int32} (h : bd (M.1 s 1 0) 9) (hn : ¬ sp_X5_catcherOf M s a b c = -1) : bd (sp_X5_catcherOf M s a b c) 8 := (cB_bd h).resolve_left hn
theorem cB_t {M : MT} {s : Nat} {a b : Int32} (h : bd (M.1 s 1 0) 9) : sp_X5_catcherBut M s a b = -1 ∨ tn (sp_X5_catcherBut M s a b) < tn (M.1 s 1 0) := by
  have hl := bd_lt h
  unfold sp_X5_catcherBut
  split
  · exact itN_inv (fun x => x = -1 ∨ tn x < tn (M.1 s 1 0)) _ (Or.inl rfl) (fun k b hk hb => by unfold st_X5_catcherBut_15; (repeat' split) <;> first | exact hb | exact Or.inr (by rw [tn_nI (by omega)]; exact hk))
  · exact Or.inl rfl
theorem isThr {M : MT} {a b c : Int32} (h : bd (M.1 0 0 0) 9) (q : sp_X8_isThrow M a b c = true) : bd a 8 := by
  unfold sp_X8_isThrow at q
  split at q
  · rename_i z; exact hasW h z
  · cases q
theorem isCpP {M : MT} {a b : Int32} (h : bd (M.1 0 1 0) 9) (q : sp_X8_isCouple M a b = true) : bd a 8 := by
  unfold sp_X8_isCouple at q
  split at q
  · rename_i z; exact hasP h z
  · cases q
theorem isCpW {M : MT} {a b : Int32} (h : bd (M.1 0 0 0) 9) (q : sp_X8_isCouple M a b = true) : bd b 8 := by
  unfold sp_X8_isCouple at q
  split at q
  · split at q
    · rename_i z; exact hasW h z
    · cases q
  · cases q
theorem rrB {M : MT} {a b : Int32} : bd (-(sp_X8_rowRefusal M a b)) 7 := by
  unfold sp_X8_rowRefusal
  (repeat' split) <;> exact bd_lit (by decide)
theorem rrS {M : MT} {a b : Int32} (q : sp_X8_rowRefusal M a b = 0) : bd a 8 := by
  unfold sp_X8_rowRefusal at q
  split at q
  · rename_i z; exact isSh z
  · exact absurd q (by decide)
theorem rrN {M : MT} {a b : Int32} (q : sp_X8_rowRefusal M a b = 0) : b ≤ M.2.1 12 (tn a) := by
  unfold sp_X8_rowRefusal at q
  split at q
  · split at q
    · split at q
      · exact absurd q (by decide)
      · split at q
        · assumption
        · exact absurd q (by decide)
    · exact absurd q (by decide)
  · exact absurd q (by decide)
theorem hasE {M : MT} {t : Nat} {a : Int32} (h : bd (M.2.1 12 t) 41) (c : sp_X3_hasElement M t a = true) : bd a 40 := by
  unfold sp_X3_hasElement at c
  have := within_iff.mp c
  exact (bd_of h this.1 this.2).1
theorem ius16 (x : Int32) : ∃ k, k < 65536 ∧ ius x 16 = nI k := by
  refine ⟨x.toBitVec.toNat / 65536, by have := x.toBitVec.isLt; omega, ?_⟩
  unfold ius
  have e : ((16 : Int32).toUInt32 &&& Int32.toUInt32 31) = 16 := by decide +kernel
  rw [e]
  apply Int32.toBitVec_inj.mp
  apply BitVec.eq_of_toNat_eq
  show (x.toBitVec >>> ((16 : UInt32).toBitVec % 32)).toNat = (BitVec.ofNat 32 (x.toBitVec.toNat / 65536)).toNat
  have e2 : ((16 : UInt32).toBitVec % 32) = 16#32 := by decide +kernel
  rw [e2, BitVec.toNat_ofNat, BitVec.ushiftRight_eq', BitVec.toNat_ushiftRight, Nat.shiftRight_eq_div_pow]
  have := x.toBitVec.isLt
  rw [Nat.mod_eq_of_lt (by omega)]
  rfl
theorem irm_nI {a d : Nat} (ha : a < 2147483648) (h0 : 0 < d) (hd : d < 2147483648) : irm (nI a) (nI d) = nI (a % d) := pk_rem ha h0 hd
theorem draw_bd {M : MT} {s : Nat} {a : Int32} {n : Nat} (ha : bd a (n + 1)) (h0 : ¬ a = 0) : bd (sp_X5_draw M s a).1 n ∧ tn (sp_X5_draw M s a).1 < tn a := by
  have ea := bd_eq ha
  have hl := bd_lt ha
  have hs := tn_small a
  have hp : 0 < tn a := by
    rcases Nat.eq_zero_or_pos (tn a) with z | z
    · rw [z] at ea; exact absurd (ea.trans nI_0) h0
    · exact z
  unfold sp_X5_draw
  rw [if_neg (by rw [ea]; exact nI_nle hp hs)]
  obtain ⟨k, hk, e⟩ := ius16 ((u1 M s 5 0 (((M.1 s 5 0) * 1103515245) + 12345)).1 s 5 0)
  show bd (irm (ius _ 16) a) n ∧ tn (irm (ius _ 16) a) < tn a
  rw [e]
  have e2 : irm (nI k) a = nI (k % tn a) := by
    conv => lhs; rw [ea]
    exact irm_nI (by omega) hp hs
  have hm := Nat.mod_lt k hp
  rw [e2]
  exact ⟨⟨nI_pos (by omega), by show tn (nI _) < n; rw [tn_nI (by omega)]; omega⟩, by rw [tn_nI (by omega)]; exact hm⟩
theorem draw_mem {M : MT} {s : Nat} {a : Int32} : (sp_X5_draw M s a).2 = u1 M s 5 0 (((M.1 s 5 0) * 1103515245) + 12345) := by
  unfold sp_X5_draw; split <;> rfl
theorem OKs_draw {M : MT} {s : Nat} {a : Int32} (h : OKs M s) : OKs (sp_X5_draw M s a).2 s := by
  rw [draw_mem]; exact OKs_other (Or.inr rfl) h
theorem dD_bd {M : MT} {s : Nat} {a b : Int32} (h : bd (M.1 s 3 2) 1000) (hk : bd (M.1 s 3 1) 1000) (hs : ¬ sp_X5_slowOf M s a b < 0 ∧ tn (sp_X5_slowOf M s a b) < 1000) : sp_X5_dueDay M s a b = -1 ∨ bd (sp_X5_dueDay M s a b) 1000 := by
  unfold sp_X5_dueDay
  split
  · exact Or.inl rfl
  · rename_i q
    unfold sp_X5_dayBack at q ⊢
    have e : M.1 s 3 1 + sp_X5_slowOf M s a b = nI (tn (M.1 s 3 1) + tn (sp_X5_slowOf M s a b)) := by
      rw [← nI_add, ← bd_eq hk, ← bd_eq (n := 1000) hs]
    have hl := bd_lt hk
    have hl2 := hs.2
    have key : ¬ 999 < M.1 s 3 1 + sp_X5_slowOf M s a b → bd (M.1 s 3 1 + sp_X5_slowOf M s a b) 1000 := by
      intro z
      rw [e] at z ⊢
      have : ¬ 999 < tn (M.1 s 3 1) + tn (sp_X5_slowOf M s a b) := fun w => z (nI_lt w (by omega))
      exact bd_nI (by omega) (by omega)
    split
    · split
      · split
        · exact Or.inl rfl
        · rename_i z; exact Or.inr (key z)
      · exact Or.inl rfl
    · split
      · exact Or.inl rfl
      · rename_i z; exact Or.inr (key z)
theorem sl_tab : ∀ k, k < 6 → ∀ a, a < 10 → ∀ f, f < 6 → (decide (sp_X8_slowness (nI k) (nI a) (nI f) < 0) == false && Nat.blt (sp_X8_slowness (nI k) (nI a) (nI f)).toNatClampNeg 100) = true := by decide +kernel
theorem sl_bd {k a f : Int32} (hk : bd k 6) (ha : bd a 10) (hf : bd f 6) : bd (sp_X8_slowness k a f) 100 := by
  rw [bd_eq hk, bd_eq ha, bd_eq hf]
  exact bd_lit (sl_tab _ (bd_lt hk) _ (bd_lt ha) _ (bd_lt hf))
theorem slowOf_bd {M : MT} {s : Nat} {a b : Int32} (h : OKs M s) (ha : tn a < tn (M.1 s 1 0)) (hb : tn b < tn (M.1 s 0 0)) : bd (sp_X5_slowOf M s a b) 100 := by
  obtain ⟨h1, h2, h3, h4, h5, h6, h7, h8, h9, h10⟩ := h
  have := bd_lt h2
  exact sl_bd (h7 _ (by omega)) (h10 _ ha).1 (h9 _ hb).2.1
theorem dD_ok {M : MT} {s : Nat} {a b : Int32} (h : OKs M s) (ha : tn a < tn (M.1 s 1 0)) (hb : tn b < tn (M.1 s 0 0)) : sp_X5_dueDay M s a b = -1 ∨ bd (sp_X5_dueDay M s a b) 1000 :=
  dD_bd h.2.2.2.2.2.1 h.2.2.2.2.1 (bd_mono (slowOf_bd h ha hb) (by omega))
theorem dD_rose {M : MT} {s p : Nat} {v a b : Int32} : sp_X5_dueDay (u1 M s 12 p v) s a b = sp_X5_dueDay M s a b := by
  have e : ∀ f i, f ≠ 12 → (u1 M s 12 p v).1 s f i = M.1 s f i := fun f i h => u1_f h
  have e1 : sp_X5_slowOf (u1 M s 12 p v) s a b = sp_X5_slowOf M s a b := by unfold sp_X5_slowOf; rw [e 9 _ (by decide), e 10 _ (by decide), e 7 _ (by decide)]
  have e2 : sp_X2_isHorse (u1 M s 12 p v) s (tn a) = sp_X2_isHorse M s (tn a) := by unfold sp_X2_isHorse; rw [e 9 _ (by decide)]
  have e3 : sp_X5_dayBack (u1 M s 12 p v) s a b = sp_X5_dayBack M s a b := by unfold sp_X5_dayBack; rw [e1, e2, e 7 _ (by decide), e 3 1 (by decide)]
  unfold sp_X5_dueDay
  rw [e3, e 3 2 (by decide)]
