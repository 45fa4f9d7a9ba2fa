/-! ===== the whole of both ===== -/
def oix (f i : Nat) : Nat := if f = 0 then 69 else if f = 1 then 70 else if f = 2 then 67 else if f = 3 then 64 + i else if f = 4 then 68 else if f = 5 then 71 else 8 * (f - 6) + i
/-- what the reference keeps of a street -/
def oldV (B : MT) : Nat → Nat → Int32 := fun f i => B.2.1 35 (oix f i)
def SH (A B : MT) : Prop := ∀ t, t < 8 → bd (B.2.1 33 t) 41 ∧ (A.2.1 9 t = 0 → B.2.1 32 t = (if A.2.1 10 t = -1 then -1 else 10 + A.2.1 10 t)) ∧
  (¬ A.2.1 9 t = 0 → B.2.1 32 t = A.2.1 11 t ∧ B.2.1 33 t = A.2.1 12 t ∧ ∀ i, i < tn (A.2.1 12 t) → B.2.2 8 (40 * t + i) = A.2.2 t i)
def TP (A B : MT) : Prop := A.2.1 6 0 = B.2.1 30 0 ∧ ∀ i, i < tn (A.2.1 6 0) → A.2.1 7 i = B.2.1 31 i
def RFU (A B : MT) : Prop := ∀ j, j < 7 → A.2.1 1 j = B.2.1 34 j
def KP (A B : MT) : Prop := A.2.1 0 0 = B.2.1 30 5 ∧ (¬ A.2.1 0 0 = 0 → AG (A.1 1) (oldV B))
/-- the class in A, the reference in B -/
def R2 (A B : MT) : Prop := AG (A.1 0) (B.1 5) ∧ SH A B ∧ TP A B ∧ RFU A B ∧ KP A B
/-- the class' part is the same -/
def CQ (A A' : MT) : Prop := (∀ s, s < 5 → A'.1 s = A.1 s) ∧ (∀ c, c < 30 → A'.2.1 c = A.2.1 c) ∧ (∀ r, r < 8 → A'.2.2 r = A.2.2 r)
/-- the reference's part is the same -/
def RQ (B B' : MT) : Prop := B'.1 5 = B.1 5 ∧ (∀ c, 30 ≤ c → B'.2.1 c = B.2.1 c) ∧ B'.2.2 8 = B.2.2 8
theorem CQ.refl (A : MT) : CQ A A := ⟨fun _ _ => rfl, fun _ _ => rfl, fun _ _ => rfl⟩
theorem CQ.trans {A B C : MT} (h : CQ A B) (g : CQ B C) : CQ A C := ⟨fun s q => (g.1 s q).trans (h.1 s q), fun c q => (g.2.1 c q).trans (h.2.1 c q), fun r q => (g.2.2 r q).trans (h.2.2 r q)⟩
theorem RQ.refl (A : MT) : RQ A A := ⟨rfl, fun _ _ => rfl, rfl⟩
theorem RQ.trans {A B C : MT} (h : RQ A B) (g : RQ B C) : RQ A C := ⟨g.1.trans h.1, fun c q => (g.2.1 c q).trans (h.2.1 c q), g.2.2.trans h.2.2⟩
theorem R2.cls {A A' B : MT} (h : R2 A B) (q : CQ A A') : R2 A' B := by
  obtain ⟨h1, h2, h3, h4, h5⟩ := h
  obtain ⟨q1, q2, q3⟩ := q
  refine ⟨by rw [q1 0 (by decide)]; exact h1, fun t ht => ?_, ?_, fun j hj => ?_, ?_⟩
  · rw [q2 9 (by decide), q2 10 (by decide), q2 11 (by decide), q2 12 (by decide), q3 t ht]; exact h2 t ht
  · unfold TP; rw [q2 6 (by decide), q2 7 (by decide)]; exact h3
  · rw [q2 1 (by decide)]; exact h4 j hj
  · unfold KP; rw [q2 0 (by decide), q1 1 (by decide)]; exact h5
theorem R2.ref {A B B' : MT} (h : R2 A B) (q : RQ B B') : R2 A B' := by
  obtain ⟨h1, h2, h3, h4, h5⟩ := h
  obtain ⟨q1, q2, q3⟩ := q
  refine ⟨by rw [q1]; exact h1, fun t ht => ?_, ?_, fun j hj => ?_, ?_⟩
  · rw [q2 32 (by decide), q2 33 (by decide), q3]; exact h2 t ht
  · unfold TP; rw [q2 30 (by decide), q2 31 (by decide)]; exact h3
  · rw [q2 34 (by decide)]; exact h4 j hj
  · unfold KP oldV; rw [q2 30 (by decide), q2 35 (by decide)]; exact h5
theorem OKX.cls {A A' : MT} (h : OKX A) (q : CQ A A') : OKX A' := by
  obtain ⟨h0, h1, h2, h3, h4, h5, h6⟩ := h
  obtain ⟨q1, q2, q3⟩ := q
  refine ⟨OKs_congr h0 (q1 0 (by decide)), OKs_congr h1 (q1 1 (by decide)), ?_, ?_, ?_, ?_, ?_⟩
  · unfold OKa; rw [q1 2 (by decide)]; exact h2
  · unfold OKa; rw [q1 3 (by decide)]; exact h3
  · unfold OKa; rw [q1 4 (by decide)]; exact h4
  · rw [q2 12 (by decide), q2 11 (by decide), q2 9 (by decide), q2 10 (by decide), q1 0 (by decide)]; exact h5
  · rw [q2 6 (by decide)]; exact h6
/-- the reference's cells that R2 asks for -/
theorem okr_of {A B : MT} (hx : OKX A) (h : R2 A B) : OKR B := by
  obtain ⟨h0, _, _, _, _, h5, h6⟩ := hx
  obtain ⟨g1, g2, g3, _, _⟩ := h
  refine ⟨⟨?_, ?_, ?_, ?_, ?_, ?_, trivial, trivial, trivial, trivial⟩, fun t ht => ⟨(g2 t ht).1, ?_⟩, ?_⟩
  · rw [← g1.wc]; exact h0.1
  · rw [← g1.pc]; exact h0.2.1
  · rw [← g1.cl]; exact h0.2.2.1
  · rw [← g1.wy (i := 0) (by omega)]; exact h0.2.2.2.1
  · rw [← g1.wy (i := 1) (by omega)]; exact h0.2.2.2.2.1
  · rw [← g1.wy (i := 2) (by omega)]; exact h0.2.2.2.2.2.1
  · obtain ⟨k1, k2, k3, k4⟩ := h5 t ht
    by_cases c : A.2.1 9 t = 0
    · rw [(g2 t ht).2.1 c]
      rcases k4 with e | ⟨_, e2, e3⟩
      · rw [if_pos e]; exact Or.inl rfl
      · have hl := bd_lt e2
        have e := bd_eq e2
        rw [if_neg (by rw [e]; exact nI_nm1 (by omega))]
        have ea : (10 : Int32) + A.2.1 10 t = nI (10 + tn (A.2.1 10 t)) := by
          conv => lhs; rw [e]
          exact nI_add 10 _
        have es : (10 : Int32) + A.2.1 10 t - 10 = A.2.1 10 t := by rw [Int32.add_comm, Int32.add_sub_cancel]
        refine Or.inr (Or.inr ⟨?_, ?_, ?_⟩)
        · rw [ea]; exact nI_le (a := 10) (by omega) (by omega)
        · rw [es]; exact e2
        · rw [es, ← g1.pc]; exact e3
    · rw [((g2 t ht).2.2 c).1]; exact Or.inr (Or.inl k2)
  · rw [← g3.1]; exact h6
/-- both have answered alike, and hold alike -/
def SR {α : Type} (x y : α × MT) : Prop := x.1 = y.1 ∧ OKX x.2 ∧ R2 x.2 y.2
theorem e_what {a n : Int32} : sp_X8_isWhat a n = sp_X9_within a 0 n := rfl
theorem e_kind {a : Int32} : sp_X8_isKind a = sp_X9_within a 0 5 := rfl
theorem e_thorns {a : Int32} : sp_X8_isThorns a = sp_X9_within a 0 9 := rfl
theorem e_shelf {a : Int32} : sp_X8_isShelf a = sp_X9_isShelf a := rfl
section Sims
variable {A B : MT}
theorem sr_val {α : Type} {v w : α} (hx : OKX A) (hr : R2 A B) (e : v = w) : SR (v, A) (w, B) := ⟨e, hx, hr⟩
theorem OKX_u2 {c i : Nat} {v : Int32} (hx : OKX A) (hc : c ≠ 6 ∧ c ≠ 9 ∧ c ≠ 10 ∧ c ≠ 11 ∧ c ≠ 12) : OKX (u2 A c i v) := by
  obtain ⟨h0, h1, h2, h3, h4, h5, h6⟩ := hx
  have e : ∀ d, d ≠ c → (u2 A c i v).2.1 d = A.2.1 d := fun d hd => funext fun j => if_neg (fun z => hd z.1)
  refine ⟨h0, h1, h2, h3, h4, ?_, ?_⟩
  · show ∀ t, t < 8 → bd ((u2 A c i v).2.1 12 t) 41 ∧ bd ((u2 A c i v).2.1 11 t) 5 ∧ ((u2 A c i v).2.1 9 t = 0 ∨ (u2 A c i v).2.1 9 t = 1) ∧ ((u2 A c i v).2.1 10 t = -1 ∨ ((u2 A c i v).2.1 9 t = 0 ∧ bd ((u2 A c i v).2.1 10 t) 8 ∧ tn ((u2 A c i v).2.1 10 t) < tn (A.1 0 1 0)))
    rw [e 12 (fun z => hc.2.2.2.2 z.symm), e 11 (fun z => hc.2.2.2.1 z.symm), e 9 (fun z => hc.2.1 z.symm), e 10 (fun z => hc.2.2.1 z.symm)]
    exact h5
  · show bd ((u2 A c i v).2.1 6 0) 251
    rw [e 6 (fun z => hc.1 z.symm)]; exact h6
theorem sr_ref {c : Int32} (hx : OKX A) (hr : R2 A B) (hc : bd (-c) 7) : SR ((sp_X8_refuse A c).1, (sp_X8_refuse A c).2) ((sp_X9_no B c).1, (sp_X9_no B c).2) := by
  have hl := bd_lt hc
  refine ⟨rfl, OKX_u2 hx (by decide), ?_⟩
  obtain ⟨h1, h2, h3, h4, h5⟩ := hr
  refine ⟨h1, h2, h3, fun j hj => ?_, h5⟩
  show (if 1 = 1 ∧ j = tn (-c) then _ else A.2.1 1 j) = (if 34 = 34 ∧ j = tn (-c) then _ else B.2.1 34 j)
  by_cases e : j = tn (-c)
  · rw [if_pos ⟨rfl, e⟩, if_pos ⟨rfl, e⟩, h4 _ hl]
  · rw [if_neg (fun z => e z.2), if_neg (fun z => e z.2), h4 j hj]
theorem sr_no {c : Int32} (hx : OKX A) (hr : R2 A B) (hc : (decide (-c < 0) == false && Nat.blt (-c).toNatClampNeg 7) = true) : SR ((sp_X8_refuse A c).1, (sp_X8_refuse A c).2) ((sp_X9_no B c).1, (sp_X9_no B c).2) := sr_ref hx hr (bd_lit hc)
theorem e_throw (h : AG (A.1 0) (B.1 5)) {a b c : Int32} : sp_X8_isThrow A a b c = sp_X9_isThrow B a b c := by
  unfold sp_X8_isThrow sp_X9_isThrow
  rw [e_win h, w98, w98]
theorem thr_in (h : AG (A.1 0) (B.1 5)) (hw : bd (A.1 0 0 0) 9) {a b c : Int32} (q : sp_X9_isThrow B a b c = true) : tn a < tn (A.1 0 0 0) ∧ (c = 0 ∨ c = 1 ∨ c = 2) := by
  rw [h.wc] at hw
  unfold sp_X9_isThrow at q
  split at q
  · rename_i z
    split at q
    · split at q
      · rename_i z2
        refine ⟨by rw [h.wc]; exact hasWt5 hw z, ?_⟩
        have g := wi5_bd (n := 2) z2 rfl (by omega)
        have e := bd_eq g
        have hl := bd_lt g
        generalize tn c = k at e hl
        subst e
        rcases (show k = 0 ∨ k = 1 ∨ k = 2 by omega) with rfl | rfl | rfl
        · exact Or.inl rfl
        · exact Or.inr (Or.inl rfl)
        · exact Or.inr (Or.inr rfl)
      · cases q
    · cases q
  · cases q
theorem win_in (h : AG (A.1 0) (B.1 5)) (hx : OKX A) {a : Int32} (q : sp_X9_isWindow B a = true) : tn a < tn (A.1 0 0 0) ∧ a = nI (tn a) := by
  have hw := hx.1.1
  rw [h.wc] at hw ⊢
  exact ⟨hasWt5 hw q, bd_eq (hasW5 hw q)⟩
theorem one_in (h : AG (A.1 0) (B.1 5)) (hx : OKX A) {a : Int32} (q : sp_X9_isOne B a = true) : tn a < tn (A.1 0 1 0) ∧ a = nI (tn a) := by
  have hw := hx.1.2.1
  rw [h.pc] at hw ⊢
  exact ⟨hasPt5 hw q, bd_eq (hasP5 hw q)⟩
theorem e_couple (h : AG (A.1 0) (B.1 5)) {p w : Int32} : (sp_X8_isCouple A p w = true) = (sp_X9_isOne B p = true ∧ sp_X9_isWindow B w = true) := by
  unfold sp_X8_isCouple
  rw [e_win h, e_one h]
  apply propext
  split
  · rename_i c; split <;> simp_all
  · rename_i c; simp [c]
end Sims
/-- one call of both, one behind the other -/
theorem sim_fin {α : Type} {M : MT} {f g : MT → α × MT} (hx : OKX M) (hr : R2 M M) (hf : RQ M (f M).2) (hg : ∀ B, CQ B (g B).2) (hs : ∀ B, R2 M B → SR (f M) (g B)) :
    OKR (f M).2 ∧ (f M).1 = (g (f M).2).1 ∧ OKX (g (f M).2).2 ∧ R2 (g (f M).2).2 (g (f M).2).2 := by
  have h1 : R2 M (f M).2 := hr.ref hf
  obtain ⟨e, hx2, hr2⟩ := hs _ h1
  have q := hg (f M).2
  exact ⟨okr_of hx h1, e, hx2.cls q, hr2.cls q⟩
