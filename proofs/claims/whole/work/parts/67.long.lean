/-! ===== status, whose, the longest queue ===== -/
section Status
variable {A B : MT}
theorem e_filled (hx : OKX A) (hr : R2 A B) {a : Int32} : sp_X8_countFilledShelves A = itN 8 (st_X9_status_132 B a) 0 := by
  unfold sp_X8_countFilledShelves
  refine itN_congr rfl (fun t x ht => ?_)
  obtain ⟨_, g2, g3⟩ := hr.2.1 t ht
  obtain ⟨_, k2, _, k4⟩ := hx.2.2.2.2.2.1 t ht
  unfold st_X8_countFilledShelves_4 st_X9_status_132 sp_X4_isEmpty
  by_cases c : A.2.1 9 t = 0
  · rw [g2 c, if_pos c]
    by_cases c2 : A.2.1 10 t = -1
    · rw [if_pos c2, if_pos c2, if_pos rfl, if_pos rfl]
    · obtain ⟨_, e2, _⟩ := k4.resolve_left c2
      have hl := bd_lt e2
      have n : ¬ (10 : Int32) + A.2.1 10 t = -1 := by
        rw [bd_eq e2, show (10 : Int32) + nI (tn (A.2.1 10 t)) = nI (10 + tn (A.2.1 10 t)) from nI_add 10 _]
        exact nI_nm1 (by omega)
      rw [if_neg c2, if_neg c2, if_neg (by decide), if_neg n]
  · rw [(g3 c).1, if_neg c, if_neg (by decide), if_neg (dnm1 k2.1)]
theorem sim_status (hx : OKX A) (hr : R2 A B) {a0 : Int32} : SR (sp_X8_status A a0) (sp_X9_status B a0) := by
  have h := hr.1
  have ok := hx.1
  by_cases n0 : a0 = 0
  · subst n0; exact sr_val hx hr h.pc
  by_cases n1 : a0 = 1
  · subst n1; exact sr_val hx hr h.wc
  by_cases n2 : a0 = 2
  · subst n2; exact sr_val hx hr h.cl
  by_cases n3 : a0 = 3
  · subst n3; exact sr_val hx hr (h.wy (i := 0) (by omega))
  by_cases n4 : a0 = 4
  · subst n4; exact sr_val hx hr (h.wy (i := 1) (by omega))
  by_cases n5 : a0 = 5
  · subst n5; exact sr_val hx hr (h.wy (i := 2) (by omega))
  by_cases n6 : a0 = 6
  · subst n6; exact sr_val hx hr h.sd
  by_cases n7 : a0 = 7
  · have e := e_roses h ok (a := a0)
    subst n7; exact sr_val hx hr e
  by_cases n8 : a0 = 8
  · subst n8; exact sr_val hx hr hr.2.2.1.1
  by_cases n9 : a0 = 9
  · subst n9; exact sr_val hx hr h.se
  by_cases n10 : a0 = 10
  · have e := e_filled hx hr (a := a0)
    subst n10; exact sr_val hx hr e
  unfold sp_X8_status sp_X9_status
  simp only [if_neg n0, if_neg n1, if_neg n2, if_neg n3, if_neg n4, if_neg n5, if_neg n6, if_neg n7, if_neg n8, if_neg n9, if_neg n10]
  by_cases c1 : a0 < 12
  · have n : ¬ sp_X9_within a0 12 16 = true := fun z => absurd (within_iff.mp (w98 ▸ z)).1 (Int32.not_le.mpr c1)
    rw [if_pos c1, if_neg n]; exact sr_val hx hr rfl
  · rw [if_neg c1]
    by_cases c2 : 16 < a0
    · have n : ¬ sp_X9_within a0 12 16 = true := fun z => absurd (within_iff.mp (w98 ▸ z)).2 (Int32.not_le.mpr c2)
      rw [if_pos c2, if_neg n]; exact sr_val hx hr rfl
    · have y : sp_X9_within a0 12 16 = true := by
        rw [w98]; exact within_iff.mpr ⟨Int32.not_lt.mp c1, Int32.not_lt.mp c2⟩
      rw [if_neg c2, if_pos y]
      exact sr_val hx hr (hr.2.2.2.1 _ (bd_lt (st_bd (Int32.not_lt.mp c1) (Int32.not_lt.mp c2))))
end Status
section Whose
variable {A B : MT} {s : Nat}
theorem tb_within {p th : Int32} {i : Nat} (hi : i < 32) (hw9 : bd (A.1 s 0 0) 9) : tb (sp_X5_windowsWithin A s p th) i = (tb (sp_X5_windowsOpenTo A s (sp_X5_cellsReachedBy A s p)) i && !(decide (i < tn (A.1 s 0 0)) && decide (¬ A.1 s 8 i = th))) := by
  have hwl := bd_lt hw9
  unfold sp_X5_windowsWithin
  refine itN_ind (fun k x => tb x i = (tb (sp_X5_windowsOpenTo A s (sp_X5_cellsReachedBy A s p)) i && !(decide (i < k) && decide (¬ A.1 s 8 i = th)))) _ (by simp) (fun k x hk hx => ?_)
  show tb (st_X5_windowsWithin_13 A s p th k x) i = _
  unfold st_X5_windowsWithin_13
  by_cases c : A.1 s 8 k = th
  · rw [if_pos c, hx]
    by_cases e : i = k
    · subst e; simp [c]
    · have : (i < k + 1) = (i < k) := by apply propext; omega
      simp [this]
  · rw [if_neg c, tb_and, hx, tb_xor, tb_sh (by omega), tb_m1 hi]
    by_cases e : i = k
    · subst e; simp [c]
    · have : (i < k + 1) = (i < k) := by apply propext; omega
      simp [this, e]
theorem her_iff (h : AG (A.1 s) (B.1 5)) (ok : OKs A s) {p w : Nat} {th : Int32} (hp : p < tn (A.1 s 1 0)) (hw : w < tn (A.1 s 0 0)) : (B.1 5 8 w = th ∧ sp_X9_mayBeHers B (nI p) (nI w) = true) ↔ tb (sp_X5_windowsWithin A s (nI p) th) w = true := by
  have hwl := bd_lt ok.1
  have e : (tb (sp_X5_windowsOpenTo A s (sp_X5_cellsReachedBy A s (nI p))) w = true) ↔ sp_X9_mayBeHers B (nI p) (nI w) = true := by
    rw [tb_wins ok, hers_iff h ok hp hw]
    exact ⟨fun z => z.2, fun z => ⟨hw, z⟩⟩
  rw [tb_within (by omega) ok.1, ← h.wi hw (f := 8) (by omega) (by omega), ← e]
  simp [hw]
  constructor
  · intro z; exact ⟨z.2, z.1⟩
  · intro z; exact ⟨z.2, z.1⟩
theorem e_whose (h : AG (A.1 s) (B.1 5)) (ok : OKs A s) {p : Nat} {th a : Int32} (hp : p < tn (A.1 s 1 0)) :
    (itN (tn (B.1 5 0 0)) (st_X9_whose_46 B (nI p) th a) (0, 0, (-1))).1 = sp_X5_windowsWithin A s (nI p) th ∧
    (itN (tn (B.1 5 0 0)) (st_X9_whose_46 B (nI p) th a) (0, 0, (-1))).2.1 = sp_X5_floorsTogether A s (sp_X5_windowsWithin A s (nI p) th) ∧
    (itN (tn (B.1 5 0 0)) (st_X9_whose_46 B (nI p) th a) (0, 0, (-1))).2.2 = sp_X5_lowestOf A s (sp_X5_windowsWithin A s (nI p) th) := by
  have hwl := bd_lt ok.1
  rw [← h.wc]
  have key := itN_ind (f := st_X9_whose_46 B (nI p) th a) (b := (0, 0, -1)) (fun k x => (∀ i, tb x.1 i = (decide (i < k) && tb (sp_X5_windowsWithin A s (nI p) th) i)) ∧ x.2.1 = itN k (st_X5_floorsTogether_4 A s (sp_X5_windowsWithin A s (nI p) th)) 0 ∧ x.2.2 = itN k (st_X5_lowestOf_4 A s (sp_X5_windowsWithin A s (nI p) th)) (-1) ∧ (x.2.2 = -1 ∨ tn x.2.2 < tn (A.1 s 0 0))) (tn (A.1 s 0 0))
    ⟨fun i => by rw [tb_0]; simp, rfl, rfl, Or.inl rfl⟩ (fun k x hk hx => by
      obtain ⟨x1, x2, x3⟩ := x
      obtain ⟨h1, h2, h3, h4⟩ := hx
      dsimp only at h1 h2 h3 h4
      have hh := her_iff h ok (th := th) hp hk
      have e7 := h.wi hk (f := 7) (by omega) (by omega)
      rw [itN_s, itN_s, ← h2, ← h3]
      have up : ∀ i, tb (x1 ||| (1 <<< ((nI k) &&& 31))) i = (decide (i < k) && tb (sp_X5_windowsWithin A s (nI p) th) i || decide (i = k)) := fun i => by rw [tb_or, h1, tb_sh (by omega)]
      unfold st_X9_whose_46 st_X5_floorsTogether_4 st_X5_lowestOf_4
      dsimp only
      rw [← e7]
      cases q : tb (sp_X5_windowsWithin A s (nI p) th) k
      · have nb : ¬ (B.1 5 8 k = th ∧ sp_X9_mayBeHers B (nI p) (nI k) = true) := fun z => by rw [hh.mp z] at q; cases q
        have z0 := (bit_0 (x := sp_X5_windowsWithin A s (nI p) th) (k := k) (by omega)).mpr q
        rw [if_pos z0, if_pos z0]
        have st : (∀ i, tb x1 i = (decide (i < k + 1) && tb (sp_X5_windowsWithin A s (nI p) th) i)) := fun i => by
          rw [h1]
          by_cases e : i = k
          · subst e; simp [q]
          · have : (i < k + 1) = (i < k) := by apply propext; omega
            simp [this]
        by_cases c1 : B.1 5 8 k = th
        · rw [if_pos c1, if_neg (fun z => nb ⟨c1, z⟩)]
          exact ⟨st, rfl, rfl, h4⟩
        · rw [if_neg c1]
          exact ⟨st, rfl, rfl, h4⟩
      · have yb := hh.mpr q
        have z0 : ¬ (((sp_X5_windowsWithin A s (nI p) th) >>> ((nI k) &&& 31)) &&& 1) = 0 := fun z => by rw [(bit_0 (by omega)).mp z] at q; cases q
        rw [if_neg z0, if_neg z0, if_pos yb.1, if_pos yb.2]
        have st : (∀ i, tb (x1 ||| (1 <<< ((nI k) &&& 31))) i = (decide (i < k + 1) && tb (sp_X5_windowsWithin A s (nI p) th) i)) := fun i => by
          rw [up]
          by_cases e : i = k
          · subst e; simp [q]
          · have : (i < k + 1) = (i < k) := by apply propext; omega
            simp [this, e]
        by_cases c1 : x3 = -1
        · rw [if_pos c1, if_pos c1]
          exact ⟨st, rfl, rfl, Or.inr (by rw [tn_nI (by omega)]; exact hk)⟩
        · rw [if_neg c1, if_neg c1, ← h.wi (h4.resolve_left c1) (f := 7) (by omega) (by omega)]
          by_cases c2 : A.1 s 7 (tn x3) ≤ A.1 s 7 k
          · rw [if_pos c2, if_pos c2]; exact ⟨st, rfl, rfl, h4⟩
          · rw [if_neg c2, if_neg c2]; exact ⟨st, rfl, rfl, Or.inr (by rw [tn_nI (by omega)]; exact hk)⟩)
  obtain ⟨h1, h2, h3, _⟩ := key
  refine ⟨tb_ext (fun i hi => ?_), h2, h3⟩
  rw [h1]
  by_cases e : i < tn (A.1 s 0 0)
  · simp [e]
  · have : tb (sp_X5_windowsWithin A s (nI p) th) i = false := by
      cases q : tb (sp_X5_windowsWithin A s (nI p) th) i
      · rfl
      · rw [tb_within hi ok.1, Bool.and_eq_true] at q
        exact absurd ((tb_wins ok).mp q.1).1 e
    rw [this]; simp
end Whose
section Longest
variable {A B : MT} {s : Nat}
/-- how many have a rose of window w and are due on day d -/
def qN (A : MT) (s w d : Nat) : Nat := cntN (fun p => decide (A.1 s 12 p = nI w ∧ A.1 s 13 p = nI d)) (tn (A.1 s 1 0))
theorem q_eq {w d : Nat} : sp_X5_queueLength A s (nI w) (nI d) = nI (qN A s w d) := by
  unfold sp_X5_queueLength qN
  refine itN_cnt0 (fun k b hk => ?_)
  unfold st_X5_queueLength_5
  by_cases c : A.1 s 12 k = nI w
  · by_cases c2 : A.1 s 13 k = nI d
    · simp [c, c2]
    · simp [c, c2]
  · simp [c]
theorem cntN_pos {P : Nat → Bool} : ∀ n, 0 < cntN P n ↔ ∃ k, k < n ∧ P k = true
  | 0 => ⟨fun h => absurd h (Nat.lt_irrefl _), fun ⟨k, hk, _⟩ => absurd hk (Nat.not_lt_zero k)⟩
  | n + 1 => by
    rw [cntN]
    constructor
    · intro h
      by_cases c : P n = true
      · exact ⟨n, Nat.lt_succ_self n, c⟩
      · rw [if_neg c] at h
        obtain ⟨k, hk, e⟩ := (cntN_pos n).mp h
        exact ⟨k, by omega, e⟩
    · rintro ⟨k, hk, e⟩
      by_cases c : k = n
      · subst c; rw [if_pos e]; omega
      · have := (cntN_pos (P := P) n).mpr ⟨k, by omega, e⟩
        omega
def LBest (A : MT) (s : Nat) (S : Nat → Nat → Prop) (x : Int32 × Int32 × Int32) : Prop :=
  (x = (0, -1, -1) ∧ ∀ w d, S w d → qN A s w d = 0) ∨
  ∃ w0 d0, S w0 d0 ∧ x = (nI (qN A s w0 d0), nI w0, nI d0) ∧ 0 < qN A s w0 d0 ∧ ∀ w d, S w d → qN A s w d ≤ qN A s w0 d0 ∧ (qN A s w d = qN A s w0 d0 → w0 < w ∨ (w0 = w ∧ d0 ≤ d))
theorem lb_congr {S T : Nat → Nat → Prop} {x : Int32 × Int32 × Int32} (e : ∀ w d, S w d ↔ T w d) (h : LBest A s S x) : LBest A s T x := by
  rcases h with ⟨h1, h2⟩ | ⟨w0, d0, h1, h2, h3, h4⟩
  · exact Or.inl ⟨h1, fun w d q => h2 w d ((e w d).mpr q)⟩
  · exact Or.inr ⟨w0, d0, (e w0 d0).mp h1, h2, h3, fun w d q => h4 w d ((e w d).mpr q)⟩
theorem q_small (ok : OKs A s) {w d : Nat} : qN A s w d ≤ 8 := by
  have := bd_lt ok.2.1
  have h := cntN_le (fun p => decide (A.1 s 12 p = nI w ∧ A.1 s 13 p = nI d)) (tn (A.1 s 1 0))
  unfold qN
  omega
theorem lb_step (h : AG (A.1 s) (B.1 5)) (ok : OKs A s) {a : Int32} {w d : Nat} {b x : Int32 × Int32 × Int32} (hx : LBest A s (fun w' d' => (w' < w ∧ d' < 1000) ∨ (w' = w ∧ d' < d)) x) :
    LBest A s (fun w' d' => (w' < w ∧ d' < 1000) ∨ (w' = w ∧ d' < d + 1)) (st_X9_longest_38 B a w b d x) := by
  have hq := q_small ok (w := w) (d := d)
  unfold st_X9_longest_38
  rw [← e_queue h, q_eq]
  rcases hx with ⟨rfl, h2⟩ | ⟨w0, d0, h1, rfl, h3, h4⟩
  · dsimp only
    by_cases c : (0 : Int32) < nI (qN A s w d)
    · rw [if_pos c]
      have c' := (nI_ltI (a := 0) (by omega) (by omega)).mp c
      refine Or.inr ⟨w, d, Or.inr ⟨rfl, by omega⟩, rfl, c', fun w' d' q => ?_⟩
      by_cases e : w' = w ∧ d' = d
      · rw [e.1, e.2]; exact ⟨Nat.le_refl _, fun _ => Or.inr ⟨rfl, Nat.le_refl _⟩⟩
      · have := h2 w' d' (by omega)
        omega
    · rw [if_neg c]
      have c' := mt (nI_ltI (a := 0) (by omega) (by omega)).mpr c
      refine Or.inl ⟨rfl, fun w' d' q => ?_⟩
      by_cases e : w' = w ∧ d' = d
      · rw [e.1, e.2]; omega
      · exact h2 w' d' (by omega)
  · have hq0 := q_small ok (w := w0) (d := d0)
    dsimp only
    by_cases c : nI (qN A s w0 d0) < nI (qN A s w d)
    · rw [if_pos c]
      have c' := (nI_ltI (by omega) (by omega)).mp c
      refine Or.inr ⟨w, d, Or.inr ⟨rfl, by omega⟩, rfl, by omega, fun w' d' q => ?_⟩
      by_cases e : w' = w ∧ d' = d
      · rw [e.1, e.2]; exact ⟨Nat.le_refl _, fun _ => Or.inr ⟨rfl, Nat.le_refl _⟩⟩
      · have := (h4 w' d' (by omega)).1
        omega
    · rw [if_neg c]
      have c' := mt (nI_ltI (by omega) (by omega)).mpr c
      refine Or.inr ⟨w0, d0, by omega, rfl, h3, fun w' d' q => ?_⟩
      by_cases e : w' = w ∧ d' = d
      · rw [e.1, e.2]; exact ⟨by omega, fun _ => by omega⟩
      · exact h4 w' d' (by omega)
theorem lb_row (h : AG (A.1 s) (B.1 5)) (ok : OKs A s) {a : Int32} {w : Nat} {b x : Int32 × Int32 × Int32} (N : Nat) (hx : LBest A s (fun w' d' => (w' < w ∧ d' < 1000) ∨ (w' = w ∧ d' < 0)) x) :
    LBest A s (fun w' d' => (w' < w ∧ d' < 1000) ∨ (w' = w ∧ d' < N)) (itN N (st_X9_longest_38 B a w b) x) :=
  itN_ind (fun m y => LBest A s (fun w' d' => (w' < w ∧ d' < 1000) ∨ (w' = w ∧ d' < m)) y) N hx (fun m y _ hy => lb_step h ok hy)
theorem lb_trip {S : Nat → Nat → Prop} {x : Int32 × Int32 × Int32} (h : LBest A s S x) : LBest A s S (x.1, x.2.1, x.2.2) := h
theorem lb_all (h : AG (A.1 s) (B.1 5)) (ok : OKs A s) {a : Int32} (n : Nat) : LBest A s (fun w' d' => w' < n ∧ d' < 1000) (itN n (st_X9_longest_26 B a) (0, -1, -1)) := by
  refine itN_ind (fun m y => LBest A s (fun w' d' => w' < m ∧ d' < 1000) y) n (Or.inl ⟨rfl, fun w d q => absurd q.1 (Nat.not_lt_zero w)⟩) (fun m y _ hy => ?_)
  have h1 := lb_row h ok (a := a) (b := y) 1000 (lb_congr (T := fun w' d' => (w' < m ∧ d' < 1000) ∨ (w' = m ∧ d' < 0)) (fun w d => by omega) (lb_trip hy))
  unfold st_X9_longest_26
  exact lb_congr (fun w d => by omega) (lb_trip h1)
/-- p waits in a queue at least as long, and if it is as long, at a window and on a day that aren't behind -/
def BE (A : MT) (s i j : Nat) : Prop := qN A s (tn (A.1 s 12 j)) (tn (A.1 s 13 j)) < qN A s (tn (A.1 s 12 i)) (tn (A.1 s 13 i)) ∨
  (qN A s (tn (A.1 s 12 j)) (tn (A.1 s 13 j)) = qN A s (tn (A.1 s 12 i)) (tn (A.1 s 13 i)) ∧ (tn (A.1 s 12 i) < tn (A.1 s 12 j) ∨ (tn (A.1 s 12 i) = tn (A.1 s 12 j) ∧ tn (A.1 s 13 i) ≤ tn (A.1 s 13 j))))
theorem rd_in (ok : OKs A s) {p : Nat} (hp : p < tn (A.1 s 1 0)) (hd : ¬ A.1 s 13 p = -1) : bd (A.1 s 12 p) 8 ∧ tn (A.1 s 12 p) < tn (A.1 s 0 0) ∧ bd (A.1 s 13 p) 1000 := by
  obtain ⟨_, _, h3, h4, h5⟩ := ok.2.2.2.2.2.2.2.2.2 p hp
  have hr := h3.resolve_left (fun z => hd (h5 z))
  have hwl := bd_lt ok.1
  have hl := bd_lt hr
  exact ⟨bd_mono hr (by omega), hl, h4.resolve_left hd⟩
theorem wl_iff (ok : OKs A s) {i j : Nat} (hi : i < tn (A.1 s 1 0)) (hj : j < tn (A.1 s 1 0)) (di : ¬ A.1 s 13 i = -1) (dj : ¬ A.1 s 13 j = -1) : sp_X5_waitsLonger A s s i s j = true ↔ ¬ BE A s j i := by
  obtain ⟨r1, r2, r3⟩ := rd_in ok hi di
  obtain ⟨t1, t2, t3⟩ := rd_in ok hj dj
  have ri := bd_eq r1; have rj := bd_eq t1; have ei := bd_eq r3; have ej := bd_eq t3
  have l1 := bd_lt r1; have l2 := bd_lt t1; have l3 := bd_lt r3; have l4 := bd_lt t3
  have qi := q_small ok (w := tn (A.1 s 12 i)) (d := tn (A.1 s 13 i))
  have qj := q_small ok (w := tn (A.1 s 12 j)) (d := tn (A.1 s 13 j))
  unfold sp_X5_waitsLonger BE
  rw [ri, rj, ei, ej, q_eq, q_eq]
  rw [← ri, ← rj, ← ei, ← ej]
  generalize qN A s (tn (A.1 s 12 i)) (tn (A.1 s 13 i)) = x at qi ⊢
  generalize qN A s (tn (A.1 s 12 j)) (tn (A.1 s 13 j)) = y at qj ⊢
  have eA : nI x = nI y ↔ x = y := nI_eq (by omega) (by omega)
  have eB : nI x ≤ nI y ↔ x ≤ y := nI_leI (by omega) (by omega)
  have e1 : (A.1 s 12 i = A.1 s 12 j) ↔ tn (A.1 s 12 i) = tn (A.1 s 12 j) := ⟨fun z => by rw [z], fun z => by rw [ri, rj, z]⟩
  have e2 : (A.1 s 12 j ≤ A.1 s 12 i) ↔ tn (A.1 s 12 j) ≤ tn (A.1 s 12 i) := by
    conv => lhs; rw [ri, rj]
    exact nI_leI (by omega) (by omega)
  have e3 : (A.1 s 13 j ≤ A.1 s 13 i) ↔ tn (A.1 s 13 j) ≤ tn (A.1 s 13 i) := by
    conv => lhs; rw [ei, ej]
    exact nI_leI (by omega) (by omega)
  by_cases c1 : nI x = nI y
  · rw [if_pos c1]
    have c1' := eA.mp c1
    by_cases c2 : A.1 s 12 i = A.1 s 12 j
    · rw [if_pos c2]
      have c2' := e1.mp c2
      by_cases c3 : A.1 s 13 j ≤ A.1 s 13 i
      · rw [if_pos c3]
        have := e3.mp c3
        constructor
        · intro z; cases z
        · intro z; exfalso; apply z; omega
      · rw [if_neg c3]
        have := mt e3.mpr c3
        exact ⟨fun _ => by omega, fun _ => rfl⟩
    · rw [if_neg c2]
      have c2' := mt e1.mpr c2
      by_cases c3 : A.1 s 12 j ≤ A.1 s 12 i
      · rw [if_pos c3]
        have := e2.mp c3
        constructor
        · intro z; cases z
        · intro z; exfalso; apply z; omega
      · rw [if_neg c3]
        have := mt e2.mpr c3
        exact ⟨fun _ => by omega, fun _ => rfl⟩
  · rw [if_neg c1]
    have c1' := mt eA.mpr c1
    by_cases c2 : nI x ≤ nI y
    · rw [if_pos c2]
      have c2' := eB.mp c2
      constructor
      · intro z; cases z
      · intro z; exfalso; apply z; omega
    · rw [if_neg c2]
      have c2' := mt eB.mpr c2
      exact ⟨fun _ => by omega, fun _ => rfl⟩
theorem be_trans {i j k : Nat} (h1 : BE A s i j) (h2 : BE A s j k) : BE A s i k := by
  unfold BE at *
  omega
theorem be_tot {i j : Nat} (h : ¬ BE A s i j) : BE A s j i := by
  unfold BE at *
  omega
theorem be_refl {i : Nat} : BE A s i i := by
  unfold BE; omega
theorem wait_eq (ok : OKs A s) : ∀ k, k ≤ tn (A.1 s 1 0) → (itN k (st_X5_longestWaiter_4 A s) (-1) = -1 ∧ ∀ j, j < k → A.1 s 13 j = -1) ∨ ∃ i, i < k ∧ itN k (st_X5_longestWaiter_4 A s) (-1) = nI i ∧ ¬ A.1 s 13 i = -1 ∧ ∀ j, j < k → ¬ A.1 s 13 j = -1 → BE A s i j
  | 0, _ => Or.inl ⟨rfl, fun j hj => absurd hj (Nat.not_lt_zero j)⟩
  | k + 1, hk => by
    have ih := wait_eq ok k (by omega)
    have hpl := bd_lt ok.2.1
    have hkp : k < tn (A.1 s 1 0) := by omega
    rw [itN_s]
    generalize itN k (st_X5_longestWaiter_4 A s) (-1) = x at ih ⊢
    unfold st_X5_longestWaiter_4
    by_cases c : A.1 s 13 k = -1
    · rw [if_pos c]
      rcases ih with ⟨h1, h2⟩ | ⟨i, h1, h2, h3, h4⟩
      · exact Or.inl ⟨h1, fun j hj => (Nat.lt_or_eq_of_le (Nat.le_of_lt_succ hj)).elim (h2 j) (fun z => by rw [z]; exact c)⟩
      · exact Or.inr ⟨i, by omega, h2, h3, fun j hj hd => (Nat.lt_or_eq_of_le (Nat.le_of_lt_succ hj)).elim (fun z => h4 j z hd) (fun z => absurd (by rw [z]; exact c) hd)⟩
    · rw [if_neg c]
      rcases ih with ⟨rfl, h2⟩ | ⟨i, h1, rfl, h3, h4⟩
      · rw [if_pos rfl]
        refine Or.inr ⟨k, by omega, rfl, c, fun j hj hd => ?_⟩
        rcases Nat.lt_or_eq_of_le (Nat.le_of_lt_succ hj) with z | z
        · exact absurd (h2 j z) hd
        · rw [z]; exact be_refl
      · rw [if_neg (nI_nm1 (by omega)), tn_nI (by omega)]
        have w := wl_iff ok hkp (show i < tn (A.1 s 1 0) by omega) c h3
        by_cases c2 : sp_X5_waitsLonger A s s k s i = true
        · rw [if_pos c2]
          refine Or.inr ⟨k, by omega, rfl, c, fun j hj hd => ?_⟩
          rcases Nat.lt_or_eq_of_le (Nat.le_of_lt_succ hj) with z | z
          · exact be_trans (be_tot (w.mp c2)) (h4 j z hd)
          · rw [z]; exact be_refl
        · rw [if_neg c2]
          refine Or.inr ⟨i, by omega, rfl, h3, fun j hj hd => ?_⟩
          rcases Nat.lt_or_eq_of_le (Nat.le_of_lt_succ hj) with z | z
          · exact h4 j z hd
          · rw [z]
            exact Classical.byContradiction (fun y => c2 (w.mpr y))
end Longest
section Tells3
variable {A B : MT}
theorem sim_whose (hx : OKX A) (hr : R2 A B) {a0 a1 a2 : Int32} : SR (sp_X8_whose A a0 a1 a2) (sp_X9_whose B a0 a1 a2) := by
  have h := hr.1
  have ok := hx.1
  unfold sp_X8_whose sp_X9_whose
  rw [e_one h, e_thorns, e_what]
  by_cases c1 : sp_X9_isOne B a0 = true
  · rw [if_pos c1, if_pos c1]
    have p := one_in h hx c1
    by_cases c2 : sp_X9_within a1 0 9 = true
    · rw [if_pos c2, if_pos c2]
      by_cases c3 : sp_X9_within a2 0 2 = true
      · rw [if_pos c3, if_pos c3, p.2]
        obtain ⟨e1, e2, e3⟩ := e_whose h ok (th := a1) (a := a2) p.1
        rw [e1, e2, e3]
        (repeat' split) <;> exact sr_val hx hr rfl
      · rw [if_neg c3, if_neg c3]; exact sr_no hx hr (by decide)
    · rw [if_neg c2, if_neg c2]; exact sr_no hx hr (by decide)
  · rw [if_neg c1, if_neg c1]; exact sr_no hx hr (by decide)
theorem sim_longest (hx : OKX A) (hr : R2 A B) {a0 : Int32} : SR (sp_X8_longest A a0) (sp_X9_longest B a0) := by
  have h := hr.1
  have ok := hx.1
  unfold sp_X8_longest sp_X9_longest
  rw [e_what]
  by_cases c1 : sp_X9_within a0 0 2 = true
  · rw [if_pos c1, if_pos c1]
    have hl := lb_all h ok (a := a0) (tn (B.1 5 0 0))
    have hw := wait_eq ok _ (Nat.le_refl _)
    have e1 : itN (tn (A.1 0 1 0)) (st_X5_longestWaiter_4 A 0) (-1) = sp_X5_longestWaiter A 0 := rfl
    rw [e1] at hw
    rw [← h.wc] at hl ⊢
    generalize itN (tn (A.1 0 0 0)) (st_X9_longest_26 B a0) (0, -1, -1) = y at hl ⊢
    rcases hw with ⟨w1, w2⟩ | ⟨i, w1, w2, w3, w4⟩
    · have y0 : y = (0, -1, -1) := by
        rcases hl with ⟨l1, _⟩ | ⟨w0, d0, _, _, l3, _⟩
        · exact l1
        · exfalso
          obtain ⟨p, hp, e⟩ := (cntN_pos _).mp l3
          have e2 := (decide_eq_true_eq.mp e).2
          rw [w2 p hp] at e2
          have hd : d0 < 1000 := by omega
          exact nI_nm1 (k := d0) (by omega) e2.symm
      rw [if_pos w1, y0]
      (repeat' split) <;> exact sr_val hx hr rfl
    · have hpl := bd_lt ok.2.1
      obtain ⟨r1, r2, r3⟩ := rd_in ok w1 w3
      have l3 := bd_lt r3
      have y0 : y = (nI (qN A 0 (tn (A.1 0 12 i)) (tn (A.1 0 13 i))), A.1 0 12 i, A.1 0 13 i) := by
        have qp : 0 < qN A 0 (tn (A.1 0 12 i)) (tn (A.1 0 13 i)) := (cntN_pos _).mpr ⟨i, w1, decide_eq_true ⟨bd_eq r1, bd_eq r3⟩⟩
        rcases hl with ⟨_, l2⟩ | ⟨w0, d0, l1, l2, l3', l4⟩
        · have := l2 _ _ ⟨r2, l3⟩
          omega
        · obtain ⟨p, hp, e⟩ := (cntN_pos _).mp l3'
          obtain ⟨e2, e3⟩ := decide_eq_true_eq.mp e
          have dp : ¬ A.1 0 13 p = -1 := by rw [e3]; exact nI_nm1 (by omega)
          have b := w4 p hp dp
          have hwl := bd_lt ok.1
          unfold BE at b
          rw [e2, e3, tn_nI (by omega), tn_nI (by omega)] at b
          have l5 := l4 _ _ ⟨r2, l3⟩
          have e4 : w0 = tn (A.1 0 12 i) ∧ d0 = tn (A.1 0 13 i) := by omega
          rw [l2, e4.1, e4.2, ← bd_eq r1, ← bd_eq r3]
      rw [w2, if_neg (nI_nm1 (by omega)), tn_nI (by omega), y0]
      have eq : sp_X5_queueLength A 0 (A.1 0 12 i) (A.1 0 13 i) = nI (qN A 0 (tn (A.1 0 12 i)) (tn (A.1 0 13 i))) := by
        rw [← q_eq, ← bd_eq r1, ← bd_eq r3]
      rw [eq]
      (repeat' split) <;> exact sr_val hx hr rfl
  · rw [if_neg c1, if_neg c1]; exact sr_no hx hr (by decide)
end Tells3
