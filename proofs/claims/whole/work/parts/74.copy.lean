/-! ===== copy ===== -/
section Copy
variable {A B : MT}
/-- what a shelf holds -/
theorem hold_3 (hx : OKX A) (hr : R2 A B) {a : Int32} (hs : sp_X9_isShelf a = true) :
    (A.2.1 9 (tn a) = 0 ∧ ¬ A.2.1 10 (tn a) = -1 ∧ 10 ≤ B.2.1 32 (tn a)) ∨
    (A.2.1 9 (tn a) = 0 ∧ A.2.1 10 (tn a) = -1 ∧ B.2.1 32 (tn a) = -1 ∧ ¬ sp_X9_isRow B a = true) ∨
    (¬ A.2.1 9 (tn a) = 0 ∧ A.2.1 10 (tn a) = -1 ∧ ¬ 10 ≤ B.2.1 32 (tn a) ∧ ¬ B.2.1 32 (tn a) < 0 ∧ sp_X9_isRow B a = true ∧ B.2.1 32 (tn a) = A.2.1 11 (tn a) ∧ B.2.1 33 (tn a) = A.2.1 12 (tn a)) := by
  have ha := isSh5 hs
  have ht := bd_lt ha
  obtain ⟨k1, k2, k3, k4⟩ := hx.2.2.2.2.2.1 _ ht
  obtain ⟨_, g2, g3⟩ := hr.2.1 _ ht
  have ir := is_row hx hr ha
  by_cases c : A.2.1 9 (tn a) = 0
  · by_cases c2 : A.2.1 10 (tn a) = -1
    · exact Or.inr (Or.inl ⟨c, c2, by rw [g2 c, if_pos c2], fun z => ir.mp z c⟩)
    · refine Or.inl ⟨c, c2, ?_⟩
      obtain ⟨_, e2, _⟩ := k4.resolve_left c2
      have hl := bd_lt e2
      rw [g2 c, if_neg c2, bd_eq e2, show (10 : Int32) + nI (tn (A.2.1 10 (tn a))) = nI (10 + tn (A.2.1 10 (tn a))) from nI_add 10 _]
      exact nI_le (a := 10) (by omega) (by omega)
  · refine Or.inr (Or.inr ⟨c, k4.resolve_right (fun z => c z.1), ?_, ?_, ir.mpr c, (g3 c).1, (g3 c).2.1⟩)
    · rw [(g3 c).1]
      have hl := bd_lt k2
      rw [bd_eq k2]
      intro z
      have := (nI_leI (a := 10) (by omega) (by omega)).mp z
      omega
    · rw [(g3 c).1]; exact k2.1
theorem str_iff {M : MT} {t : Nat} {i n : Int32} (hl : bd (M.2.1 12 t) 41) : sp_X3_hasStretch M t i n = true ↔ ¬ i < 0 ∧ ¬ n < 0 ∧ (Int32.toInt64 i) + (Int32.toInt64 n) ≤ Int32.toInt64 (M.2.1 12 t) := by
  have hll := bd_lt hl
  unfold sp_X3_hasStretch
  by_cases c1 : i < 0
  · rw [if_pos c1]
    exact ⟨fun z => (by cases z), fun z => absurd c1 z.1⟩
  · rw [if_neg c1]
    by_cases c2 : n < 0
    · rw [if_pos c2]
      exact ⟨fun z => (by cases z), fun z => absurd c2 z.2.1⟩
    · rw [if_neg c2]
      obtain ⟨k, hk, rfl⟩ := nI_of c1
      obtain ⟨m, hm, rfl⟩ := nI_of c2
      have e := bd_eq hl
      have eL : (Int32.toInt64 (nI k)) + (Int32.toInt64 (nI m)) ≤ Int32.toInt64 (M.2.1 12 t) ↔ k + m ≤ tn (M.2.1 12 t) := by
        rw [nI_l hk, nI_l hm, lN_add]
        conv => lhs; rw [e]
        rw [nI_l (by omega)]
        exact pk_lLE (by omega) (by omega)
      rw [eL]
      by_cases c3 : M.2.1 12 t < nI m
      · rw [if_pos c3]
        rw [e] at c3
        have := (nI_ltI (by omega) (by omega)).mp c3
        exact ⟨fun z => (by cases z), fun z => by omega⟩
      · rw [if_neg c3]
        rw [e] at c3
        have h3 := mt (nI_ltI (by omega) (by omega)).mpr c3
        have e2 : M.2.1 12 t - nI m = nI (tn (M.2.1 12 t) - m) := by
          conv => lhs; rw [e]
          exact pk_sub (by omega)
        rw [e2]
        by_cases c4 : nI (tn (M.2.1 12 t) - m) < nI k
        · rw [if_pos c4]
          have := (nI_ltI (by omega) (by omega)).mp c4
          exact ⟨fun z => (by cases z), fun z => by omega⟩
        · rw [if_neg c4]
          have := mt (nI_ltI (by omega) (by omega)).mpr c4
          exact ⟨fun _ => ⟨c1, c2, by omega⟩, fun _ => rfl⟩
theorem cp_up {p q i j n : Int32} (hp : bd p 8) (hq : bd q 8) (hi : ¬ i < 0) (hj : ¬ j < 0) (h1 : tn i + tn n ≤ 40) (h2 : tn j + tn n ≤ 40) (hd : ¬ tn p = tn q ∨ tn j ≤ tn i) : ∀ k, k ≤ tn n →
    (itN k (st_X9_copy_225 B p q i j n) B).1 = B.1 ∧ (itN k (st_X9_copy_225 B p q i j n) B).2.1 = B.2.1 ∧ ∀ x, (itN k (st_X9_copy_225 B p q i j n) B).2.2 8 x = if 40 * tn q + tn j ≤ x ∧ x < 40 * tn q + tn j + k then B.2.2 8 (40 * tn p + tn i + (x - (40 * tn q + tn j))) else B.2.2 8 x
  | 0, _ => ⟨rfl, rfl, fun x => by rw [if_neg (by omega)]; rfl⟩
  | k + 1, hk => by
    obtain ⟨m1, m2, m3⟩ := cp_up (n := n) hp hq hi hj h1 h2 hd k (by omega)
    rw [itN_s]
    generalize itN k (st_X9_copy_225 B p q i j n) B = m at m1 m2 m3 ⊢
    have e1 := (cp_ix hp hi (show k < tn n by omega) h1).1
    have e2 := (cp_ix hq hj (show k < tn n by omega) h2).1
    have hpl := bd_lt hp
    have hql := bd_lt hq
    unfold st_X9_copy_225
    rw [e1, e2, tn_nI (by omega), tn_nI (by omega)]
    refine ⟨m1, m2, fun x => ?_⟩
    by_cases e : x = 40 * tn q + tn j + k
    · rw [e, u3_eq, m3, if_neg (by omega), if_pos (by omega), show 40 * tn q + tn j + k - (40 * tn q + tn j) = k by omega]
    · rw [u3_ie e, m3]
      by_cases c : 40 * tn q + tn j ≤ x ∧ x < 40 * tn q + tn j + k
      · rw [if_pos c, if_pos (by omega)]
      · rw [if_neg c, if_neg (by omega)]
theorem cp_down {p q i j n : Int32} (hp : bd p 8) (hq : bd q 8) (hi : ¬ i < 0) (hj : ¬ j < 0) (h1 : tn i + tn n ≤ 40) (h2 : tn j + tn n ≤ 40) (e : tn p = tn q) (hd : tn i < tn j) : ∀ k, k ≤ tn n →
    (itN k (st_X9_copy_179 B p q i j n) B).1 = B.1 ∧ (itN k (st_X9_copy_179 B p q i j n) B).2.1 = B.2.1 ∧ ∀ x, (itN k (st_X9_copy_179 B p q i j n) B).2.2 8 x = if 40 * tn q + tn j + (tn n - k) ≤ x ∧ x < 40 * tn q + tn j + tn n then B.2.2 8 (40 * tn p + tn i + (x - (40 * tn q + tn j))) else B.2.2 8 x
  | 0, _ => ⟨rfl, rfl, fun x => by rw [if_neg (by omega)]; rfl⟩
  | k + 1, hk => by
    obtain ⟨m1, m2, m3⟩ := cp_down (n := n) hp hq hi hj h1 h2 e hd k (by omega)
    rw [itN_s]
    generalize itN k (st_X9_copy_179 B p q i j n) B = m at m1 m2 m3 ⊢
    have ed : dn (tn n) k = nI (tn n - 1 - k) := dn_in (by omega)
    have e1 := (cp_ix hp hi (show tn n - 1 - k < tn n by omega) h1).1
    have e2 := (cp_ix hq hj (show tn n - 1 - k < tn n by omega) h2).1
    have hpl := bd_lt hp
    have hql := bd_lt hq
    unfold st_X9_copy_179
    rw [ed, e1, e2, tn_nI (by omega), tn_nI (by omega)]
    refine ⟨m1, m2, fun x => ?_⟩
    by_cases ex : x = 40 * tn q + tn j + (tn n - 1 - k)
    · rw [ex, u3_eq, m3, if_neg (by omega), if_pos (by omega), show 40 * tn q + tn j + (tn n - 1 - k) - (40 * tn q + tn j) = tn n - 1 - k by omega]
    · rw [u3_ie ex, m3]
      by_cases c : 40 * tn q + tn j + (tn n - k) ≤ x ∧ x < 40 * tn q + tn j + tn n
      · rw [if_pos c, if_pos (by omega)]
      · rw [if_neg c, if_neg (by omega)]
theorem sr_copy {p q i j n : Int32} {y : MT} (hx : OKX A) (hr : R2 A B) (sp : sp_X9_isShelf p = true) (sq : sp_X9_isShelf q = true) (rp : ¬ A.2.1 9 (tn p) = 0) (rq : ¬ A.2.1 9 (tn q) = 0) (h1 : tn i + tn n ≤ tn (A.2.1 12 (tn p))) (h2 : tn j + tn n ≤ tn (A.2.1 12 (tn q)))
    (y1 : y.1 = B.1) (y2 : y.2.1 = B.2.1) (y3 : ∀ x, y.2.2 8 x = if 40 * tn q + tn j ≤ x ∧ x < 40 * tn q + tn j + tn n then B.2.2 8 (40 * tn p + tn i + (x - (40 * tn q + tn j))) else B.2.2 8 x) : SR (n, cpyM A (tn p) (tn q) (tn i) (tn j) (tn n)) (n, y) := by
  have hp := bd_lt (isSh5 sp)
  have hq := bd_lt (isSh5 sq)
  obtain ⟨k1, _, _, _⟩ := hx.2.2.2.2.2.1 _ hp
  obtain ⟨l1, _, _, _⟩ := hx.2.2.2.2.2.1 _ hq
  have k1l := bd_lt k1
  have l1l := bd_lt l1
  have gp := ((hr.2.1 _ hp).2.2 rp).2.2
  have gq := ((hr.2.1 _ hq).2.2 rq).2.2
  refine sr_sh hx hr rfl rfl (fun c _ => rfl) y1 (fun c _ _ => by rw [y2]) hx.2.2.2.2.2.1 (fun t ht8 => ?_)
  show SH1 (cpyM A (tn p) (tn q) (tn i) (tn j) (tn n)) y t
  by_cases e : t = tn q
  · subst e
    refine ⟨by rw [y2]; exact (hr.2.1 _ ht8).1, fun z => absurd z rq, fun _ => ⟨by rw [y2]; exact ((hr.2.1 _ ht8).2.2 rq).1, by rw [y2]; exact ((hr.2.1 _ ht8).2.2 rq).2.1, fun x hxx => ?_⟩⟩
    have hxx' : x < tn (A.2.1 12 (tn q)) := hxx
    have ec : (cpyM A (tn p) (tn q) (tn i) (tn j) (tn n)).2.2 (tn q) x = va_cpy (A.2.2 (tn p)) (A.2.2 (tn q)) (tn i) (tn j) (tn n) x := by
      show (if tn q = tn q then _ else _) = _
      rw [if_pos rfl]
    rw [ec, y3]
    by_cases c : tn j ≤ x ∧ x < tn j + tn n
    · rw [if_pos (by omega), pk_cpy_in c.1 c.2, ← gp (tn i + (x - tn j)) (by omega), show 40 * tn q + x - (40 * tn q + tn j) = x - tn j by omega, Nat.add_assoc]
    · rw [if_neg (by omega), pk_cpy_out (by omega)]
      exact gq x hxx'
  · refine sh_keep (hr.2.1 t ht8) rfl rfl rfl rfl ?_ (by rw [y2]) (by rw [y2]) (fun x hx40 => by rw [y3, if_neg (by omega)]) (hx.2.2.2.2.2.1 t ht8).1
    funext x
    show (if t = tn q then _ else _) = _
    rw [if_neg e]
theorem sim_copy (hx : OKX A) (hr : R2 A B) {a0 a1 a2 a3 a4 : Int32} : SR (sp_X8_copy A a0 a1 a2 a3 a4) (sp_X9_copy B a0 a1 a2 a3 a4) := by
  unfold sp_X8_copy sp_X9_copy
  rw [e_shelf, e_shelf]
  by_cases c0 : sp_X9_isShelf a0 = true
  · by_cases c1 : sp_X9_isShelf a1 = true
    · rw [if_pos c0, if_pos c0, if_pos c1, if_pos c1]
      rcases hold_3 hx hr c0 with ⟨p1, p2, p3⟩ | ⟨p1, p2, p3, p4⟩ | ⟨p1, p2, p3, p4, p5, p6, p7⟩
      · rw [if_neg p2, if_pos p3]; exact sr_no hx hr (by decide)
      · rw [if_pos p2, if_neg (show ¬ 10 ≤ B.2.1 32 (tn a0) by rw [p3]; decide), if_neg p4, if_pos p1, if_pos p1, if_pos (show B.2.1 32 (tn a0) < 0 by rw [p3]; decide)]
        rcases hold_3 hx hr c1 with ⟨q1, q2, q3⟩ | ⟨q1, q2, q3, q4⟩ | ⟨q1, q2, q3, q4, q5, q6, q7⟩
        · rw [if_neg q2, if_pos q3]; exact sr_no hx hr (by decide)
        · rw [if_pos q2, if_neg (show ¬ 10 ≤ B.2.1 32 (tn a1) by rw [q3]; decide)]; exact sr_no hx hr (by decide)
        · rw [if_pos q2, if_neg q3]; exact sr_no hx hr (by decide)
      · rw [if_pos p2, if_neg p3, if_pos p5, if_neg p1]
        rcases hold_3 hx hr c1 with ⟨q1, q2, q3⟩ | ⟨q1, q2, q3, q4⟩ | ⟨q1, q2, q3, q4, q5, q6, q7⟩
        · rw [if_neg q2, if_pos q3]; exact sr_no hx hr (by decide)
        · rw [if_pos q2, if_neg (show ¬ 10 ≤ B.2.1 32 (tn a1) by rw [q3]; decide), if_neg q4, if_pos q1, if_neg p1, if_pos q1, if_neg p4, if_neg (show ¬ 0 ≤ B.2.1 32 (tn a1) by rw [q3]; decide)]
          exact sr_no hx hr (by decide)
        · rw [if_pos q2, if_neg q3, if_neg q1, if_pos q5, if_neg p4, if_pos (Int32.not_lt.mp q4)]
          by_cases cs : A.2.1 11 (tn a0) = A.2.1 11 (tn a1)
          · rw [if_pos cs, if_pos (show B.2.1 32 (tn a0) = B.2.1 32 (tn a1) by rw [p6, q6]; exact cs), if_neg p1, if_neg q1, p7, q7]
            have k1 := (hx.2.2.2.2.2.1 _ (bd_lt (isSh5 c0))).1
            have l1 := (hx.2.2.2.2.2.1 _ (bd_lt (isSh5 c1))).1
            have k1l := bd_lt k1
            have l1l := bd_lt l1
            have ip := str_iff (i := a2) (n := a4) k1
            have iq := str_iff (i := a3) (n := a4) l1
            by_cases d1 : a4 < 0
            · rw [if_neg (fun z => (ip.mp z).2.1 d1), if_pos d1]; exact sr_no hx hr (by decide)
            rw [if_neg d1]
            by_cases d2 : a2 < 0
            · rw [if_neg (fun z => (ip.mp z).1 d2), if_pos d2]; exact sr_no hx hr (by decide)
            rw [if_neg d2]
            by_cases d3 : a3 < 0
            · rw [if_pos d3]
              by_cases d4 : sp_X3_hasStretch A (tn a0) a2 a4 = true
              · rw [if_pos d4, if_neg (fun z => (iq.mp z).1 d3)]; exact sr_no hx hr (by decide)
              · rw [if_neg d4]; exact sr_no hx hr (by decide)
            rw [if_neg d3]
            by_cases d4 : (Int32.toInt64 a2) + (Int32.toInt64 a4) ≤ Int32.toInt64 (A.2.1 12 (tn a0))
            · rw [if_pos (ip.mpr ⟨d2, d1, d4⟩), if_neg (Int64.not_lt.mpr d4)]
              by_cases d5 : (Int32.toInt64 a3) + (Int32.toInt64 a4) ≤ Int32.toInt64 (A.2.1 12 (tn a1))
              · rw [if_pos (iq.mpr ⟨d3, d1, d5⟩), if_pos d5]
                have b1 := cp_bd k1 d1 d2 d4
                have b2 := cp_bd l1 d1 d3 d5
                have ha := isSh5 c0
                have hb := isSh5 c1
                by_cases d6 : a0 = a1
                · rw [if_pos d6]
                  by_cases d7 : a3 ≤ a2
                  · rw [if_pos d7]
                    have d8 : tn a3 ≤ tn a2 := by
                      obtain ⟨k, hk, rfl⟩ := nI_of d2
                      obtain ⟨m, hm, rfl⟩ := nI_of d3
                      rw [tn_nI hk, tn_nI hm]
                      exact (nI_leI hm hk).mp d7
                    obtain ⟨y1, y2, y3⟩ := cp_up (B := B) (n := a4) ha hb d2 d3 (by omega) (by omega) (Or.inr d8) _ (Nat.le_refl _)
                    exact sr_copy hx hr c0 c1 p1 q1 b1.1 b2.1 y1 y2 y3
                  · rw [if_neg d7]
                    have d8 : tn a2 < tn a3 := by
                      obtain ⟨k, hk, rfl⟩ := nI_of d2
                      obtain ⟨m, hm, rfl⟩ := nI_of d3
                      rw [tn_nI hk, tn_nI hm]
                      have := mt (nI_leI hm hk).mpr d7
                      omega
                    obtain ⟨y1, y2, y3⟩ := cp_down (B := B) (n := a4) ha hb d2 d3 (by omega) (by omega) (by rw [d6]) d8 _ (Nat.le_refl _)
                    exact sr_copy hx hr c0 c1 p1 q1 b1.1 b2.1 y1 y2 (fun x => by rw [y3 x, Nat.sub_self, Nat.add_zero])
                · rw [if_neg d6]
                  have d8 : ¬ tn a0 = tn a1 := fun z => d6 (by rw [bd_eq ha, bd_eq hb, z])
                  obtain ⟨y1, y2, y3⟩ := cp_up (B := B) (n := a4) ha hb d2 d3 (by omega) (by omega) (Or.inl d8) _ (Nat.le_refl _)
                  exact sr_copy hx hr c0 c1 p1 q1 b1.1 b2.1 y1 y2 y3
              · rw [if_neg (fun z => d5 (iq.mp z).2.2), if_neg d5]; exact sr_no hx hr (by decide)
            · rw [if_neg (fun z => d4 (ip.mp z).2.2), if_pos (Int64.not_le.mp d4)]; exact sr_no hx hr (by decide)
          · rw [if_neg cs, if_neg (show ¬ B.2.1 32 (tn a0) = B.2.1 32 (tn a1) by rw [p6, q6]; exact cs)]; exact sr_no hx hr (by decide)
    · rw [if_pos c0, if_pos c0, if_neg c1, if_neg c1]; exact sr_no hx hr (by decide)
  · rw [if_neg c0, if_neg c0]; exact sr_no hx hr (by decide)
end Copy
