/-! ===== from the entry: the two objects are made, then the loop ===== -/
section Whole
set_option maxHeartbeats 4000000 in
theorem law_made {p : Program} {l : Launch} {e : Env} {s : State} {m : MethodId} {below : List Frame} {meth : Method} {c : Code} {b L1 : Nat} {xs : Nat → Int32} (hL : L1 ≤ 3072) (C0 : lw_At p s m meth c b L1 xs) {D : va_G} {cn t sv : Nat → Nat} (hFA : FA D cn s) (hSt : ∀ K : KT, (∀ i, ad K (200 + i) = t i) → K.2.2.2 = sv → (∀ q, aK K q → s.heap.size ≤ q) → St K (aK K) s s.heap) {k o q8 q9 : Nat} {u : S8} {a9 : Nat → Nat} (hk : k ≤ 600000) (ho : o ≤ 7302250) :
    L (p, l, e, room_1, s, m, #[Value.ref b], below, meth, c, 0, 0, lw_Z below #[Value.ref b] s, 4) (D, cn, fun q => s.heap.size ≤ q) (Wf8 cn q8 u ++ Wf9 cn q9 a9) k o 18 [some (.ref b), some (.ref q8), some (.ref q9), some (.int (nI 0))] [] := by
  intro hn H locs lc hP hD hS hl
  obtain ⟨hP1, hi, hA⟩ := hand (t := t) (sv := sv) hP hD
  refine W.widen hk ho ?_
  refine va_forget (fun q hq => hS.2.2 q hq) ?_
  have hK : va_K D vwCl (tysK (KK D cn q8 u q9 a9 t sv)) s := hFA.1
  have hR := hSt (KK D cn q8 u q9 a9 t sv) (fun i => by
    show adF q8 u q9 a9 t (200 + i) = t i
    unfold adF
    rw [if_neg (by omega), if_neg (by omega), if_neg (by omega), if_neg (by omega), if_neg (by omega), if_neg (by omega), if_neg (by omega), if_neg (by omega), if_neg (by omega), if_neg (by omega), if_neg (by omega), if_neg (by omega), show 200 + i - 200 = i by omega]) rfl hA
  exact law_run (l := l) (e := e) (below := below) (K := KK D cn q8 u q9 a9 t sv) (M := M0) hL C0 hA (law_words C0) hK hi hR OKX_M0 R2_M0 hn H [] lc hP1 ⟨hS.1, fun q h1 _ => hS.2.1 q h1 (Nat.not_le.mpr h1), fun _ h => by cases h⟩ hl
set_option maxHeartbeats 4000000 in
theorem law_begin {p : Program} {l : Launch} {e : Env} {s : State} {m : MethodId} {below : List Frame} {meth : Method} {c : Code} {b : Nat} {Q : State → Prop} {D : va_G} {cn : Nat → ClassId} (hF : LF (p, l, e, room_1, s, m, #[Value.ref b], below, meth, c, 0, 0, Q, 4) (D, cn, fun q => s.heap.size ≤ q) RL cL_law 13)
    (kk : ∀ (q8 : Nat) (u : S8) (q9 : Nat) (a9 : Nat → Nat), L (p, l, e, room_1, s, m, #[Value.ref b], below, meth, c, 0, 0, Q, 4) (D, cn, fun q => s.heap.size ≤ q) (Wf8 cn q8 u ++ Wf9 cn q9 a9) (0 + 1 + 139 + 1 + 20) (0 + 8 + 3441 + 32 + 842) 18 [some (.ref b), some (.ref q8), some (.ref q9), some (.int (nI 0))] []) :
    W p l e room_1 s m #[Value.ref b] below meth c s.heap [] 0 0 Q (entryFrame m ([Value.ref b] : List Value).toArray 4) := by
  have key : L (p, l, e, room_1, s, m, #[Value.ref b], below, meth, c, 0, 0, Q, 4) (D, cn, fun q => s.heap.size ≤ q) [] 0 0 0 [some (.ref b), none, none, none] [] := by
    refine l_make (C := RX8) (T := TX8) (N := 8) hF dL_law_0 dL_law_3 dL_law_4 c_X8_init (Or.inl tw_92) tw_90 tw_91 tw_73 tw_93 tw_94 tw_lay8 tyX8 tyX8_ok rfl (fun j hj => by rcases (show j = 0 ∨ j = 1 ∨ j = 2 ∨ j = 3 ∨ j = 4 ∨ j = 5 ∨ j = 6 ∨ j = 7 by omega) with rfl | rfl | rfl | rfl | rfl | rfl | rfl | rfl <;> rfl) ⟨rfl, rfl, by decide, by decide, rfl⟩ (by decide) (by decide) (show 0 + 1 + 139 ≤ room_1.cells from Nat.le_of_ble_eq_true rfl) (show 0 + 8 + 3441 ≤ room_1.slots from Nat.le_of_ble_eq_true rfl) (Nat.le_of_ble_eq_true rfl) (fun q8 u => ?_)
    refine l_astore hF dL_law_7 rfl rfl ?_
    refine l_make (C := RX9) (T := TX9) (N := 32) hF dL_law_8 dL_law_11 dL_law_12 c_X9_init (Or.inl tw_1162) tw_1160 tw_1161 tw_82 tw_1163 tw_1164 tw_lay9 tyX9 tyX9_ok rfl (fun j hj => by rcases (show j = 0 ∨ j = 1 ∨ j = 2 ∨ j = 3 ∨ j = 4 ∨ j = 5 ∨ j = 6 ∨ j = 7 ∨ j = 8 ∨ j = 9 ∨ j = 10 ∨ j = 11 ∨ j = 12 ∨ j = 13 ∨ j = 14 ∨ j = 15 ∨ j = 16 ∨ j = 17 ∨ j = 18 ∨ j = 19 ∨ j = 20 ∨ j = 21 ∨ j = 22 ∨ j = 23 ∨ j = 24 ∨ j = 25 ∨ j = 26 ∨ j = 27 ∨ j = 28 ∨ j = 29 ∨ j = 30 ∨ j = 31 by omega) with rfl | rfl | rfl | rfl | rfl | rfl | rfl | rfl | rfl | rfl | rfl | rfl | rfl | rfl | rfl | rfl | rfl | rfl | rfl | rfl | rfl | rfl | rfl | rfl | rfl | rfl | rfl | rfl | rfl | rfl | rfl | rfl <;> rfl) ⟨rfl, rfl, by decide, by decide, rfl⟩ (by decide) (by decide) (show 0 + 1 + 139 + 1 + 20 ≤ room_1.cells from Nat.le_of_ble_eq_true rfl) (show 0 + 8 + 3441 + 32 + 842 ≤ room_1.slots from Nat.le_of_ble_eq_true rfl) (Nat.le_of_ble_eq_true rfl) (fun q9 a9 => ?_)
    refine l_astore hF dL_law_15 rfl rfl ?_
    refine l_iconst (v := nI 0) hF dL_law_16 rfl ?_
    refine l_istore hF dL_law_17 rfl rfl ?_
    exact kk q8 u q9 a9
  rw [lg_entry_eq]
  exact key (Nat.le_refl 4) s.heap [] _ (fun k q h => by simp at h) ⟨fun i j p q h => by simp at h, fun k q h => by simp at h⟩ va_S.rf (lv_entry [.ref b] (Nat.le_of_ble_eq_true rfl))
set_option maxHeartbeats 4000000 in
theorem whole_start {p : Program} {e : Env} {s : State} {m : MethodId} {below : List Frame} {meth : Method} {c : Code} (l : Launch) (hflags : l.flags = flags0) {b L : Nat} {xs : Nat → Int32} (hL : L ≤ 3072) (C0 : lw_At p s m meth c b L xs) : W p l e room_1 s m #[Value.ref b] below meth c s.heap [] 0 0 (lw_Z below #[Value.ref b] s) (entryFrame m ([Value.ref b] : List Value).toArray 4) := by
  have C1 := C0
  obtain ⟨hx, hb, hr, hml, hown, hts, hX, hbl, hlocks, hgv⟩ := C1
  obtain ⟨D, cn, hFA⟩ := start_FA hts
  obtain ⟨t, sv, hSt⟩ := start_St C0
  have hF : LF (p, l, e, room_1, s, m, #[Value.ref b], below, meth, c, 0, 0, lw_Z below #[Value.ref b] s, 4) (D, cn, fun q => s.heap.size ≤ q) RL cL_law 13 :=
    ⟨hx, hb, hml, hown, law_words C0, hFA, (show 13 ≤ room_1.frames ∧ 40 * 13 ≤ room_1.locals from ⟨Nat.le_of_ble_eq_true rfl, Nat.le_of_ble_eq_true rfl⟩), fun q h => h⟩
  exact law_begin hF (fun q8 u q9 a9 => law_made (l := l) (e := e) (below := below) hL C0 hFA hSt (Nat.le_of_ble_eq_true rfl) (Nat.le_of_ble_eq_true rfl))
end Whole
