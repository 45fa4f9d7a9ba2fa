/-! ===== who is paired with whom: the trials ===== -/
def addb (u c : Int32) : Int32 := if c = -1 then u else u ||| (1 <<< (c &&& 31))
section Trials
variable (P : Nat) (H : Nat → Nat → Bool) (φ : Nat → Nat → Nat)
/-- the best of none and of the first k people, and the first that reaches it -/
def optN (E : Int32 → Nat) (w : Nat) (u : Int32) : Nat → Nat × Int32
  | 0 => (E u, -1)
  | k + 1 => if H w k = true ∧ tb u k = false ∧ (optN E w u k).1 < φ w k + E (u ||| (1 <<< (nI k &&& 31))) then (φ w k + E (u ||| (1 <<< (nI k &&& 31))), nI k) else optN E w u k
/-- the most that n windows can bring, from w on -/
def FN : Nat → Nat → Int32 → Nat
  | 0, _, _ => 0
  | n + 1, w, u => (optN H φ (fun v => FN n (w + 1) v) w u P).1
def CN (n w : Nat) (u : Int32) : Int32 := (optN H φ (fun v => FN P H φ n (w + 1) v) w u P).2
/-- the first of all the best -/
def GN : Nat → Nat → Int32 → Nat → Int32
  | 0, _, _, _ => -1
  | n + 1, w, u, i => if i = w then CN P H φ n w u else GN n (w + 1) (addb u (CN P H φ n w u)) i
variable {P H φ}
theorem opt_le {D : Nat} {E : Int32 → Nat} {e : Nat} (hφ : ∀ w p, φ w p ≤ D) (hE : ∀ v, E v ≤ e) {w : Nat} {u : Int32} : ∀ k, (optN H φ E w u k).1 ≤ D + e
  | 0 => Nat.le_trans (hE u) (Nat.le_add_left _ _)
  | k + 1 => by
    unfold optN
    split
    · exact Nat.add_le_add (hφ w k) (hE _)
    · exact opt_le hφ hE k
theorem FN_le {D : Nat} (hφ : ∀ w p, φ w p ≤ D) : ∀ n w u, FN P H φ n w u ≤ n * D
  | 0, _, _ => Nat.zero_le _
  | n + 1, w, u => by
    have := opt_le (H := H) (E := fun v => FN P H φ n (w + 1) v) (w := w) (u := u) hφ (fun v => FN_le hφ n (w + 1) v) P
    exact Nat.le_trans this (by rw [Nat.succ_mul]; omega)
/-- what of the reference's memory the trials leave -/
def TF (X Y : MT) : Prop := Y.1 = X.1 ∧ Y.2.2 = X.2.2 ∧ (∀ c, c ≠ 30 → c ≠ 39 → c ≠ 40 → Y.2.1 c = X.2.1 c) ∧ ∀ j, j ≠ 6 → Y.2.1 30 j = X.2.1 30 j
theorem TF.refl (X : MT) : TF X X := ⟨rfl, rfl, fun _ _ _ _ => rfl, fun _ _ => rfl⟩
theorem TF.trans {X Y Z : MT} (h : TF X Y) (g : TF Y Z) : TF X Z := ⟨g.1.trans h.1, g.2.1.trans h.2.1, fun c h1 h2 h3 => (g.2.2.1 c h1 h2 h3).trans (h.2.2.1 c h1 h2 h3), fun j hj => (g.2.2.2 j hj).trans (h.2.2.2 j hj)⟩
theorem TF_39 {X : MT} {i : Nat} {v : Int32} : TF X (u2 X 39 i v) := ⟨rfl, rfl, fun c _ h _ => u2_ne h, fun j _ => congrFun (u2_ne (by decide)) j⟩
/-- what a trial has come to: v is its sum, G whom it pairs from w on -/
def TB (W w : Nat) (M R : MT) (mm v : Nat) (G : Nat → Int32) : Prop :=
  (mm ≤ v → R.2.1 30 6 = nI v ∧ ∀ i, i < W → R.2.1 40 i = if i < w then M.2.1 39 i else G i) ∧ (¬ mm ≤ v → R.2.1 30 6 = M.2.1 30 6 ∧ R.2.1 40 = M.2.1 40)
theorem most_lt {M : MT} {mm s : Nat} (h : M.2.1 30 6 = nI mm - 1) (hm : mm ≤ 1000) (hs : s ≤ 1000) : M.2.1 30 6 < nI s ↔ mm ≤ s := by
  rw [h]
  rcases Nat.eq_zero_or_pos mm with rfl | z
  · exact ⟨fun _ => Nat.zero_le _, fun _ => Int32.lt_of_lt_of_le (show nI 0 - 1 < 0 by decide) (nI_pos' (by omega))⟩
  · obtain ⟨m, rfl⟩ : ∃ m, mm = m + 1 := ⟨mm - 1, by omega⟩
    rw [nI_pred, nI_ltI (by omega) (by omega)]
    omega
theorem cp40 {M : MT} {T : TT} {a b c : Int32} : ∀ k, (itN k (st_X9_tries_25 M T a b c) M).1 = M.1 ∧ (itN k (st_X9_tries_25 M T a b c) M).2.2 = M.2.2 ∧ (∀ d, d ≠ 40 → (itN k (st_X9_tries_25 M T a b c) M).2.1 d = M.2.1 d) ∧ ∀ i, i < k → (itN k (st_X9_tries_25 M T a b c) M).2.1 40 i = M.2.1 39 i
  | 0 => ⟨rfl, rfl, fun _ _ => rfl, fun i hi => absurd hi (Nat.not_lt_zero i)⟩
  | k + 1 => by
    obtain ⟨m1, m2, m3, m4⟩ := cp40 (M := M) (T := T) (a := a) (b := b) (c := c) k
    rw [itN_s]
    generalize itN k (st_X9_tries_25 M T a b c) M = m at m1 m2 m3 m4 ⊢
    unfold st_X9_tries_25
    refine ⟨m1, m2, fun d hd => (u2_ne hd).trans (m3 d hd), fun i hi => ?_⟩
    by_cases e : i = k
    · rw [e, u2_eq, m3 39 (by decide)]
    · rw [u2_ie e]; exact m4 i (by omega)
theorem cp40c {M N : MT} {T : TT} {a b c : Int32} {k : Nat} : itN k (st_X9_tries_25 M T a b c) N = itN k (st_X9_tries_25 N T a b c) N := itN_congr rfl (fun _ _ _ => rfl)
theorem tries_end {M : MT} {T : TT} {W : Nat} {u : Int32} {s mm : Nat} (hW : W ≤ 8) (e0 : M.1 5 0 0 = nI W) (h : M.2.1 30 6 = nI mm - 1) (hm : mm ≤ 1000) (hs : s ≤ 1000) (G : Nat → Int32) :
    TF M (sp_X9_tries M T (nI W) u (nI s)) ∧ (∀ i, (sp_X9_tries M T (nI W) u (nI s)).2.1 39 i = M.2.1 39 i) ∧ TB W W M (sp_X9_tries M T (nI W) u (nI s)) mm s G := by
  unfold sp_X9_tries
  rw [if_pos e0.symm]
  by_cases c : M.2.1 30 6 < nI s
  · rw [if_pos c, cp40c]
    obtain ⟨m1, m2, m3, m4⟩ := cp40 (M := u2 M 30 6 (nI s)) (T := T) (a := nI W) (b := u) (c := nI s) 8
    generalize itN 8 (st_X9_tries_25 (u2 M 30 6 (nI s)) T (nI W) u (nI s)) (u2 M 30 6 (nI s)) = R at m1 m2 m3 m4 ⊢
    refine ⟨⟨m1, m2, fun d h1 _ h3 => (m3 d h3).trans (u2_ne h1), fun j hj => (congrFun (m3 30 (by decide)) j).trans (u2_ie hj)⟩, fun i => (congrFun (m3 39 (by decide)) i).trans (congrFun (u2_ne (by decide)) i), fun _ => ⟨(congrFun (m3 30 (by decide)) 6).trans u2_eq, fun i hi => ?_⟩, fun z => absurd ((most_lt h hm hs).mp c) z⟩
    rw [if_pos hi, m4 i (by omega)]
    exact congrFun (u2_ne (by decide)) i
  · rw [if_neg c]
    exact ⟨TF.refl M, fun _ => rfl, fun z => absurd ((most_lt h hm hs).mpr z) c, fun _ => ⟨rfl, rfl⟩⟩
theorem try_spec {W D : Nat} {V : Nat → Nat → Nat → Int32} (hW : W ≤ 8) (hP : P ≤ 8) (hD : D ≤ 10) (hφ : ∀ w p, φ w p ≤ D) (e0 : V 5 0 0 = nI W) (e1 : V 5 1 0 = nI P)
    (hf : ∀ M : MT, M.1 = V → ∀ w p, w < W → p < P → sp_X9_fondness M (nI w) (nI p) = nI (φ w p)) :
    ∀ (n w : Nat) (u : Int32) (s mm : Nat) (M : MT), w + n = W → M.1 = V → (∀ w p, w < W → p < P → tb (M.2.1 38 w) p = H w p) → M.2.1 30 6 = nI mm - 1 → mm ≤ 1000 → s + n * D ≤ 90 →
      TF M (tryN n M (nI w) u (nI s)) ∧ (∀ i, i < w → (tryN n M (nI w) u (nI s)).2.1 39 i = M.2.1 39 i) ∧ TB W w M (tryN n M (nI w) u (nI s)) mm (s + FN P H φ n w u) (GN P H φ n w u)
  | 0, w, u, s, mm, M, hw, hV, hH, hm, hmm, hs => by
    obtain rfl : w = W := by omega
    rw [tryN.eq_1]
    obtain ⟨q1, q2, q3⟩ := tries_end (T := fun M _ _ _ => M) (u := u) (s := s) hW (by rw [hV]; exact e0) hm hmm (by omega) (GN P H φ 0 w u)
    exact ⟨q1, fun i _ => q2 i, q3⟩
  | n + 1, w, u, s, mm, M, hw, hV, hH, hm, hmm, hs => by
    have ih := try_spec hW hP hD hφ e0 e1 hf n (w + 1)
    have hb := FN_le (P := P) (H := H) hφ n (w + 1)
    rw [Nat.succ_mul] at hs
    rw [show tryN (n + 1) M (nI w) u (nI s) = sp_X9_tries M (tryN n) (nI w) u (nI s) from rfl]
    unfold sp_X9_tries
    have ne : ¬ nI w = M.1 5 0 0 := by
      rw [hV, e0]
      intro q
      have := congrArg tn q
      rw [tn_nI (by omega), tn_nI (by omega)] at this
      omega
    have ew : nI w + 1 = nI (w + 1) := nI_1 _
    have tw : tn (nI w) = w := tn_nI (by omega)
    have eP : tn (M.1 5 1 0) = P := by rw [hV, e1, tn_nI (by omega)]
    rw [if_neg ne, eP, tw, ew]
    generalize hE : (fun v => FN P H φ n (w + 1) v) = E at *
    have hEb : ∀ v, E v ≤ n * D := fun v => by rw [← hE]; exact hb v
    have eE : ∀ v, FN P H φ n (w + 1) v = E v := fun v => by rw [← hE]
    have key := itN_ind (f := st_X9_tries_72 M (tryN n) (nI w) u (nI s)) (b := tryN n (u2 M 39 w (-1)) (nI (w + 1)) u (nI s)) (fun k X => TF M X ∧ (∀ i, i < w → X.2.1 39 i = M.2.1 39 i) ∧
        TB W w M X mm (s + (optN H φ E w u k).1) (fun i => if i = w then (optN H φ E w u k).2 else GN P H φ n (w + 1) (addb u (optN H φ E w u k).2) i)) P ?_ (fun k X hk hX => ?_)
    · generalize itN P (st_X9_tries_72 M (tryN n) (nI w) u (nI s)) (tryN n (u2 M 39 w (-1)) (nI (w + 1)) u (nI s)) = R at key ⊢
      obtain ⟨k1, k2, k3⟩ := key
      refine ⟨k1, k2, ?_⟩
      have eF : FN P H φ (n + 1) w u = (optN H φ E w u P).1 := by rw [← hE]; rfl
      have eC : CN P H φ n w u = (optN H φ E w u P).2 := by rw [← hE]; rfl
      have eG : GN P H φ (n + 1) w u = (fun i => if i = w then (optN H φ E w u P).2 else GN P H φ n (w + 1) (addb u (optN H φ E w u P).2) i) := by
        funext i
        rw [← eC]; rfl
      rw [eF, eG]
      exact k3
    · obtain ⟨q1, q2, q3, q4⟩ := ih u s mm (u2 M 39 w (-1)) (by omega) hV (fun w p h1 h2 => by rw [u2_ne (by decide)]; exact hH w p h1 h2) ((congrFun (u2_ne (by decide)) 6).trans hm) hmm (by omega)
      rw [eE] at q3 q4
      refine ⟨TF_39.trans q1, fun i hi => (q2 i (by omega)).trans (u2_ie (by omega)), fun z => ?_, fun z => ?_⟩
      · obtain ⟨a1, a2⟩ := q3 z
        refine ⟨a1, fun i hi => ?_⟩
        rw [a2 i hi]
        show _ = if i < w then _ else if i = w then (-1) else GN P H φ n (w + 1) (addb u (-1)) i
        rw [show addb u (-1) = u from if_pos rfl]
        by_cases c1 : i < w
        · rw [if_pos (by omega), if_pos c1, u2_ie (by omega)]
        · rw [if_neg c1]
          by_cases c2 : i = w
          · rw [if_pos (by omega), if_pos c2, c2, u2_eq]
          · rw [if_neg (by omega), if_neg c2]
      · obtain ⟨a1, a2⟩ := q4 z
        exact ⟨a1.trans (congrFun (u2_ne (by decide)) 6), a2.trans (u2_ne (by decide))⟩
    · obtain ⟨t1, t2, t3, t4⟩ := hX
      have eV : X.1 = V := t1.1.trans hV
      have e38 : X.2.1 38 = M.2.1 38 := t1.2.2.1 38 (by decide) (by decide) (by decide)
      have ob := opt_le (H := H) (E := E) (w := w) (u := u) hφ hEb k
      unfold st_X9_tries_72
      rw [tw, e38]
      have h38 := hH w k (by omega) hk
      by_cases c1 : ((M.2.1 38 w) >>> ((nI k) &&& 31)) &&& 1 = 0
      · have hf0 : ¬ H w k = true := by
          rw [bit_0 (by omega), h38] at c1
          rw [c1]; decide
        have eo : optN H φ E w u (k + 1) = optN H φ E w u k := if_neg (fun z => hf0 z.1)
        rw [if_pos c1, eo]
        exact ⟨t1, t2, t3, t4⟩
      · have hf1 : H w k = true := by
          rw [bit_0 (by omega), h38] at c1
          cases q : H w k
          · exact absurd q c1
          · rfl
        rw [if_neg c1]
        by_cases c2 : ((u >>> ((nI k) &&& 31)) &&& 1) = 1
        · have ht : ¬ tb u k = false := by
            rw [bit_1 (by omega)] at c2
            rw [c2]; decide
          have eo : optN H φ E w u (k + 1) = optN H φ E w u k := if_neg (fun z => ht z.2.1)
          rw [if_pos c2, eo]
          exact ⟨t1, t2, t3, t4⟩
        · have ht : tb u k = false := by
            rw [bit_1 (by omega)] at c2
            cases q : tb u k
            · rfl
            · exact absurd q c2
          rw [if_neg c2, ew, hf (u2 X 39 w (nI k)) eV w k (by omega) hk, show nI s + nI (φ w k) = nI (s + φ w k) from nI_add _ _]
          have hφk := hφ w k
          have addn : ∀ c, addb u (nI c) = u ||| (1 <<< (nI c &&& 31)) ∨ ¬ c < 8 := fun c => by
            by_cases q : c < 8
            · exact Or.inl (if_neg (nI_nm1 (by omega)))
            · exact Or.inr q
          have eb : addb u (nI k) = u ||| (1 <<< (nI k &&& 31)) := (addn k).resolve_right (by omega)
          have hv' := hEb (u ||| (1 <<< (nI k &&& 31)))
          have fin : ∀ m', X.2.1 30 6 = nI m' - 1 → m' ≤ 1000 → (m' ≤ s + φ w k + E (u ||| (1 <<< (nI k &&& 31))) → (mm ≤ s + φ w k + E (u ||| (1 <<< (nI k &&& 31))) ∧ (optN H φ E w u k).1 < φ w k + E (u ||| (1 <<< (nI k &&& 31))))) →
              (¬ m' ≤ s + φ w k + E (u ||| (1 <<< (nI k &&& 31))) → (mm ≤ s + (optN H φ E w u k).1 ∧ ¬ (optN H φ E w u k).1 < φ w k + E (u ||| (1 <<< (nI k &&& 31)))) ∨ (¬ mm ≤ s + (optN H φ E w u k).1 ∧ ¬ mm ≤ s + φ w k + E (u ||| (1 <<< (nI k &&& 31))))) →
              TF M (tryN n (u2 X 39 w (nI k)) (nI (w + 1)) (u ||| (1 <<< (nI k &&& 31))) (nI (s + φ w k))) ∧ (∀ i, i < w → (tryN n (u2 X 39 w (nI k)) (nI (w + 1)) (u ||| (1 <<< (nI k &&& 31))) (nI (s + φ w k))).2.1 39 i = M.2.1 39 i) ∧
              TB W w M (tryN n (u2 X 39 w (nI k)) (nI (w + 1)) (u ||| (1 <<< (nI k &&& 31))) (nI (s + φ w k))) mm (s + (optN H φ E w u (k + 1)).1) (fun i => if i = w then (optN H φ E w u (k + 1)).2 else GN P H φ n (w + 1) (addb u (optN H φ E w u (k + 1)).2) i) := by
            intro m' hm' hb' up no
            obtain ⟨q1, q2, q3, q4⟩ := ih (u ||| (1 <<< (nI k &&& 31))) (s + φ w k) m' (u2 X 39 w (nI k)) (by omega) eV (fun w p h1 h2 => by rw [u2_ne (by decide), e38]; exact hH w p h1 h2) ((congrFun (u2_ne (by decide)) 6).trans hm') hb' (by omega)
            rw [eE] at q3 q4
            generalize tryN n (u2 X 39 w (nI k)) (nI (w + 1)) (u ||| (1 <<< (nI k &&& 31))) (nI (s + φ w k)) = R at q1 q2 q3 q4 ⊢
            refine ⟨(t1.trans TF_39).trans q1, fun i hi => (q2 i (by omega)).trans ((u2_ie (by omega)).trans (t2 i hi)), ?_⟩
            by_cases cm : m' ≤ s + φ w k + E (u ||| (1 <<< (nI k &&& 31)))
            · obtain ⟨u1', u2'⟩ := up cm
              have eo : optN H φ E w u (k + 1) = (φ w k + E (u ||| (1 <<< (nI k &&& 31))), nI k) := if_pos ⟨hf1, ht, u2'⟩
              obtain ⟨a1, a2⟩ := q3 cm
              rw [eo]
              refine ⟨fun _ => ⟨by rw [a1, Nat.add_assoc], fun i hi => ?_⟩, fun z => absurd (by rw [← Nat.add_assoc]; exact u1') z⟩
              rw [a2 i hi]
              show _ = if i < w then _ else if i = w then nI k else GN P H φ n (w + 1) (addb u (nI k)) i
              rw [eb]
              by_cases d1 : i < w
              · rw [if_pos (by omega), if_pos d1, u2_ie (by omega)]; exact t2 i d1
              · rw [if_neg d1]
                by_cases d2 : i = w
                · rw [if_pos (by omega), if_pos d2, d2, u2_eq]
                · rw [if_neg (by omega), if_neg d2]
            · obtain ⟨a1, a2⟩ := q4 cm
              have b1 : R.2.1 30 6 = X.2.1 30 6 := a1.trans (congrFun (u2_ne (by decide)) 6)
              have b2 : R.2.1 40 = X.2.1 40 := a2.trans (u2_ne (by decide))
              rcases no cm with ⟨n1, n2⟩ | ⟨n1, n2⟩
              · have eo : optN H φ E w u (k + 1) = optN H φ E w u k := if_neg (fun z => n2 z.2.2)
                rw [eo]
                refine ⟨fun z => ?_, fun z => absurd n1 z⟩
                obtain ⟨x1, x2⟩ := t3 z
                exact ⟨b1.trans x1, fun i hi => by rw [b2]; exact x2 i hi⟩
              · have ev : ¬ mm ≤ s + (optN H φ E w u (k + 1)).1 := by
                  show ¬ mm ≤ s + (if H w k = true ∧ tb u k = false ∧ (optN H φ E w u k).1 < φ w k + E (u ||| (1 <<< (nI k &&& 31))) then (φ w k + E (u ||| (1 <<< (nI k &&& 31))), nI k) else optN H φ E w u k).1
                  split
                  · show ¬ mm ≤ s + (φ w k + E (u ||| (1 <<< (nI k &&& 31))))
                    omega
                  · exact n1
                obtain ⟨x1, x2⟩ := t4 n1
                exact ⟨fun z => absurd z ev, fun _ => ⟨b1.trans x1, b2.trans x2⟩⟩
          by_cases cv : mm ≤ s + (optN H φ E w u k).1
          · obtain ⟨x1, _⟩ := t3 cv
            exact fin (s + (optN H φ E w u k).1 + 1) (by rw [x1, nI_pred]) (by omega) (fun z => ⟨by omega, by omega⟩) (fun z => Or.inl ⟨cv, by omega⟩)
          · obtain ⟨x1, _⟩ := t4 cv
            exact fin mm (x1.trans hm) hmm (fun z => ⟨z, by omega⟩) (fun z => Or.inr ⟨cv, z⟩)
end Trials
