/-! ===== the machine at the law's entry ===== -/
section Start
theorem tbl {args : Array Value} {s : State} (hts : ∀ w ∈ lw_tbl, w.before args s = true) (i : Nat) {c : Cond} (h : lw_tbl[i]? = some c) : c.before args s = true := hts c (List.mem_of_getElem? h)
set_option maxHeartbeats 4000000 in
theorem start_FA {args : Array Value} {s : State} (hts : ∀ w ∈ lw_tbl, w.before args s = true) : ∃ (D : va_G) (cn : Nat → ClassId), FA D cn s := by
  have htw : ∀ w ∈ TW, w.before args s = true := fun w hw => hts w (List.mem_filter.mp hw).1
  obtain ⟨c0, i0, kn0⟩ := u_known (C := RX0) (T := TX0) (N := 7) (n := 7) htw tw_lay0 (htw _ tw_217)
  obtain ⟨c1, i1, kn1⟩ := u_known (C := RX1) (T := TX1) (N := 4) (n := 4) htw tw_lay1 (htw _ tw_254)
  obtain ⟨c2, i2, kn2⟩ := u_known (C := RX2) (T := TX2) (N := 5) (n := 5) htw tw_lay2 (htw _ tw_129)
  obtain ⟨c3, i3, kn3⟩ := u_known (C := RX3) (T := TX3) (N := 3) (n := 3) htw tw_lay3 (htw _ tw_318)
  obtain ⟨c4, i4, kn4⟩ := u_known (C := RX4) (T := TX4) (N := 3) (n := 3) htw tw_lay4 (htw _ tw_312)
  obtain ⟨c5, i5, kn5⟩ := u_known (C := RX5) (T := TX5) (N := 10) (n := 10) htw tw_lay5 (htw _ tw_99)
  obtain ⟨c6, i6, kn6⟩ := u_known (C := RX6) (T := TX6) (N := 7) (n := 7) htw tw_lay6 (htw _ tw_278)
  obtain ⟨c7, i7, kn7⟩ := u_known (C := RX7) (T := TX7) (N := 3) (n := 3) htw tw_lay7 (htw _ tw_108)
  obtain ⟨c8, i8, kn8⟩ := u_known (C := RX8) (T := TX8) (N := 8) (n := 8) htw tw_lay8 (htw _ tw_91)
  obtain ⟨c9, i9, kn9⟩ := u_known (C := RX9) (T := TX9) (N := 32) (n := 32) htw tw_lay9 (htw _ tw_1161)
  obtain ⟨a0, ka0, m0, f0, g0, e0⟩ := Cond.arrayClass_spec (htw _ tw_252)
  obtain ⟨a1, ka1, m1, f1, g1, e1⟩ := Cond.arrayClass_spec (htw _ tw_341)
  have o2 : (Cond.arrayOver (.object RX7)).before args s = true := tbl hts 105 (by decide +kernel)
  obtain ⟨m2, a2, ka2, b2, -, g2, e2, f2⟩ := Cond.arrayOver_spec o2
  have o3 : (Cond.arrayOver (.object RX2)).before args s = true := tbl hts 107 (by decide +kernel)
  obtain ⟨m3, a3, ka3, b3, -, g3, e3, f3⟩ := Cond.arrayOver_spec o3
  have o4 : (Cond.arrayOver (.object RX4)).before args s = true := tbl hts 311 (by decide +kernel)
  obtain ⟨m4, a4, ka4, b4, -, g4, e4, f4⟩ := Cond.arrayOver_spec o4
  have o5 : (Cond.arrayOver (.array .int)).before args s = true := tbl hts 262 (by decide +kernel)
  obtain ⟨m5, a5, ka5, b5, g5, e5, f5⟩ := Cond.arrayOver_specA o5
  refine ⟨(fun k => match k with | 0 => c0 | 1 => c1 | 2 => c2 | 3 => c3 | 4 => c4 | 5 => c5 | 6 => c6 | 7 => c7 | 8 => c8 | _ => c9, fun k => match k with | 0 => i0 | 1 => i1 | 2 => i2 | 3 => i3 | 4 => i4 | 5 => i5 | 6 => i6 | 7 => i7 | 8 => i8 | _ => i9), fun k => match k with | 0 => a0 | 1 => a1 | 2 => a2 | 3 => a3 | 4 => a4 | _ => a5, ⟨fun c q hq => ?_, fun k q hq => ?_⟩, fun w hw => ?_, o2, o3, o4, va_AOA.of o5⟩
  · match c, hq with
    | 0, hq => cases hq; exact kn0
    | 1, hq => cases hq; exact kn1
    | 2, hq => cases hq; exact kn2
    | 3, hq => cases hq; exact kn3
    | 4, hq => cases hq; exact kn4
    | 5, hq => cases hq; exact kn5
    | 6, hq => cases hq; exact kn6
    | 7, hq => cases hq; exact kn7
    | 8, hq => cases hq; exact kn8
    | 9, hq => cases hq; exact kn9
    | c + 10, hq => simp [vwCl] at hq
  · match k, hq with
    | 0, hq => cases hq; exact ⟨fun n z => ⟨fun k h => (by cases h), ka0, g0, m0, e0⟩, f0⟩
    | 1, hq => cases hq; exact ⟨fun n z => ⟨fun k h => (by cases h), ka1, g1, m1, e1⟩, f1⟩
    | 2, hq => cases hq; exact ⟨fun n z => ⟨fun k h => (by cases h), ka2, g2, m2, e2⟩, ka2, m2, g2, e2, b2, f2⟩
    | 3, hq => cases hq; exact ⟨fun n z => ⟨fun k h => (by cases h), ka3, g3, m3, e3⟩, ka3, m3, g3, e3, b3, f3⟩
    | 4, hq => cases hq; exact ⟨fun n z => ⟨fun k h => (by cases h), ka4, g4, m4, e4⟩, ka4, m4, g4, e4, b4, f4⟩
    | 5, hq => cases hq; exact ⟨fun n z => ⟨fun k h => (by cases h), ka5, g5, m5, e5⟩, f5⟩
    | k + 6, hq => simp [kT6, tysK] at hq
  · simp only [kIn, List.mem_cons, List.not_mem_nil, or_false] at hw
    rcases hw with rfl | rfl | rfl | rfl | rfl | rfl | rfl
    · exact va_Nw.of rfl (tbl hts 109 (by decide +kernel))
    · exact va_Nw.of rfl (tbl hts 130 (by decide +kernel))
    · exact va_Nw.of rfl (tbl hts 218 (by decide +kernel))
    · exact va_Nw.of rfl (tbl hts 255 (by decide +kernel))
    · exact va_Nw.of rfl (tbl hts 279 (by decide +kernel))
    · exact va_Nw.of rfl (tbl hts 313 (by decide +kernel))
    · exact va_Nw.of rfl (tbl hts 319 (by decide +kernel))
def tmS (i : Nat) : Term := .string RX6 ([78, 84, 86, 88, 90, 92, 94].getD i 0)
abbrev gvn : List Cond := flatC (Jvm.Cond.and given_1 narrow_1)
theorem gs_1 : ∀ i, i < 7 → Cond.exactly (tmS i) "java/lang/String" ∈ gvn := by decide +kernel
theorem gs_2 : ∀ i, i < 7 → Cond.eq (.field (tmS i) "java/lang/String" "coder" "B") (.int 0) ∈ gvn := by decide +kernel
theorem gs_3 : ∀ i, i < 7 → Cond.arrayOf (.field (tmS i) "java/lang/String" "value" "[B") .byte ∈ gvn := by decide +kernel
theorem gs_4 : ∀ i, i < 7 → Cond.eq (.length (.field (tmS i) "java/lang/String" "value" "[B")) (.int (Int32.ofNat ((kText.map (fun q => q.2.length)).getD i 0))) ∈ gvn := by decide +kernel
theorem gs_5 : ∀ i, i < 7 → ∀ j, j < (kText.map (fun q => q.2.length)).getD i 0 → Cond.eq (.elem (.field (tmS i) "java/lang/String" "value" "[B") (.int (Int32.ofNat j))) (.int (((kText.map (fun q => q.2)).getD i []).getD j 0)) ∈ gvn := by decide +kernel
theorem gs_6 : ∀ i, i < 7 → ∀ j, j < 7 → i ≠ j → (Cond.not (Cond.eq (tmS i) (tmS j)) ∈ gvn ∨ Cond.not (Cond.eq (tmS j) (tmS i)) ∈ gvn) := by decide +kernel
theorem ge_0 : ∀ j, j < 6 → Cond.eq (.elem (.static RX8 "KIND_ABOVE" "[I") (.int (Int32.ofNat j))) (.int (tKA j)) ∈ gvn := by decide +kernel
theorem ge_1 : ∀ j, j < 6 → Cond.eq (.elem (.static RX8 "REACH_OF_KIND" "[I") (.int (Int32.ofNat j))) (.int (tRK j)) ∈ gvn := by decide +kernel
theorem ge_2 : ∀ j, j < 7 → Cond.eq (.elem (.static RX6 "NUMBERS_BEHIND" "[I") (.int (Int32.ofNat j))) (.int (tNB j)) ∈ gvn := by decide +kernel
set_option maxHeartbeats 4000000 in
theorem start_St {p : Program} {s : State} {m : MethodId} {meth : Method} {c : Code} {b L : Nat} {xs : Nat → Int32} (C0 : lw_At p s m meth c b L xs) : ∃ (t sv : Nat → Nat), ∀ K : KT, (∀ i, ad K (200 + i) = t i) → K.2.2.2 = sv → (∀ q, aK K q → s.heap.size ≤ q) → St K (aK K) s s.heap := by
  obtain ⟨hx, hb, hr, hml, hown, hts, hX, hbl, hlocks, hgv⟩ := C0
  have hs := flat_of_before _ hgv
  have hA : ∀ a : Nat, a < s.heap.size → ¬ (fun q : Nat => s.heap.size ≤ q) a := fun a h h2 => Nat.not_lt.mpr h2 h
  obtain ⟨t0, v0, T0⟩ := va_Tof (tm := .static RX8 "KIND_ABOVE" "[I") (ty := .int) (N := 6) (f := fun j => .int (tKA j)) (A := fun q : Nat => s.heap.size ≤ q) (by decide) (hs _ (by decide +kernel)) (va_eqt (hs _ (by decide +kernel))) (fun j hj => va_eqt (hs _ (ge_0 j hj))) hA
  have Z0 := va_Zof (C := RX8) (n := "KIND_ABOVE") (d := "[I") (A := fun q : Nat => s.heap.size ≤ q) (tbl hts 463 (by decide +kernel)) (tbl hts 73 (by decide +kernel)) v0 hA
  obtain ⟨t1, v1, T1⟩ := va_Tof (tm := .static RX8 "REACH_OF_KIND" "[I") (ty := .int) (N := 6) (f := fun j => .int (tRK j)) (A := fun q : Nat => s.heap.size ≤ q) (by decide) (hs _ (by decide +kernel)) (va_eqt (hs _ (by decide +kernel))) (fun j hj => va_eqt (hs _ (ge_1 j hj))) hA
  have Z1 := va_Zof (C := RX8) (n := "REACH_OF_KIND") (d := "[I") (A := fun q : Nat => s.heap.size ≤ q) (tbl hts 664 (by decide +kernel)) (tbl hts 73 (by decide +kernel)) v1 hA
  obtain ⟨t2, v2, T2⟩ := va_Tof (tm := .static RX6 "NUMBERS_BEHIND" "[I") (ty := .int) (N := 7) (f := fun j => .int (tNB j)) (A := fun q : Nat => s.heap.size ≤ q) (by decide) (hs _ (by decide +kernel)) (va_eqt (hs _ (by decide +kernel))) (fun j hj => va_eqt (hs _ (ge_2 j hj))) hA
  have Z2 := va_Zof (C := RX6) (n := "NUMBERS_BEHIND") (d := "[I") (A := fun q : Nat => s.heap.size ≤ q) (tbl hts 628 (by decide +kernel)) (tbl hts 79 (by decide +kernel)) v2 hA
  obtain ⟨adK, adV, S0, E0⟩ := vk_Sof (N := 7) (tm := tmS) (len := (kText.map (fun q => q.2.length))) (byt := (kText.map (fun q => q.2))) (A := fun q : Nat => s.heap.size ≤ q) (by decide) (fun i hi => hs _ (gs_1 i hi)) (fun i hi => hs _ (gs_2 i hi)) (fun i hi => hs _ (gs_3 i hi)) (fun i hi => hs _ (gs_4 i hi)) (fun i hi j hj => hs _ (gs_5 i hi j hj)) (fun i j hi hj hne => (gs_6 i hi j hj hne).imp (hs _) (hs _)) hA
  have Zc := va_Zof (C := RJ0) (n := "COMPACT_STRINGS") (d := "Z") (v := .int 1) (A := fun q : Nat => s.heap.size ≤ q) (tbl hts 576 (by decide +kernel)) (tbl hts 84 (by decide +kernel)) (va_eqi (hs _ (by decide +kernel))) hA
  have Zs := va_Zqof (C := RJ3) (n := "SIOOBE_FORMATTER") (d := "Ljava/util/function/BiFunction;") (A := fun q : Nat => s.heap.size ≤ q) (tbl hts 592 (by decide +kernel)) (tbl hts 86 (by decide +kernel)) (hs _ (by decide +kernel)) hA
  refine ⟨fun i => if i = 0 then t0 else if i = 1 then t1 else if i = 2 then t2 else adK (i - 10), adV, fun K hK hsv hAB => ?_⟩
  have h210 : ∀ i, ad K (210 + i) = adK i := fun i => by
    have h : ad K (200 + (10 + i)) = (if 10 + i = 0 then t0 else if 10 + i = 1 then t1 else if 10 + i = 2 then t2 else adK (10 + i - 10)) := hK (10 + i)
    rw [show 200 + (10 + i) = 210 + i by omega, if_neg (by omega), if_neg (by omega), if_neg (by omega), show 10 + i - 10 = i by omega] at h
    exact h
  have e0 : ad K 200 = t0 := hK 0
  have e1 : ad K 201 = t1 := hK 1
  have e2 : ad K 202 = t2 := hK 2
  refine ⟨fun q hq => ?_, fun w hw => ?_, fun q hq => ?_, ?_, Zc.narrow hAB, Zs.narrow hAB⟩
  · simp only [kTab, List.mem_cons, List.not_mem_nil, or_false] at hq
    rcases hq with rfl | rfl | rfl
    · show va_Z RX8 "KIND_ABOVE" "[I" (.ref (ad K 200)) (aK K) s s.heap ∧ va_T .int (ad K 200) 6 (fun j => .int (tKA j)) (aK K) s s.heap
      rw [e0]
      exact ⟨Z0.narrow hAB, T0.narrow hAB⟩
    · show va_Z RX8 "REACH_OF_KIND" "[I" (.ref (ad K 201)) (aK K) s s.heap ∧ va_T .int (ad K 201) 6 (fun j => .int (tRK j)) (aK K) s s.heap
      rw [e1]
      exact ⟨Z1.narrow hAB, T1.narrow hAB⟩
    · show va_Z RX6 "NUMBERS_BEHIND" "[I" (.ref (ad K 202)) (aK K) s s.heap ∧ va_T .int (ad K 202) 7 (fun j => .int (tNB j)) (aK K) s s.heap
      rw [e2]
      exact ⟨Z2.narrow hAB, T2.narrow hAB⟩
  · simp only [kNest, List.mem_cons, List.not_mem_nil, or_false] at hw
    rcases hw with rfl | rfl | rfl | rfl | rfl | rfl
    · exact va_Nw.of rfl (tbl hts 410 (by decide +kernel))
    · exact va_Nw.of rfl (tbl hts 446 (by decide +kernel))
    · exact va_Nw.of rfl (tbl hts 557 (by decide +kernel))
    · exact va_Nw.of rfl (tbl hts 727 (by decide +kernel))
    · exact va_Nw.of rfl (tbl hts 462 (by decide +kernel))
    · exact va_Nw.of rfl (tbl hts 663 (by decide +kernel))
  · simp only [kStr, List.mem_cons, List.not_mem_nil, or_false] at hq
    rcases hq with rfl | rfl | rfl | rfl | rfl | rfl | rfl | rfl | rfl | rfl | rfl | rfl | rfl | rfl
    · show vk_R RX6 78 "cells" (ad K (210 + 0)) s
      rw [h210]
      exact vk_R.of (tbl hts 562 (by decide +kernel)) (E0 0 (by decide))
    · show vk_R RX6 84 "window" (ad K (210 + 1)) s
      rw [h210]
      exact vk_R.of (tbl hts 615 (by decide +kernel)) (E0 1 (by decide))
    · show vk_R RX6 86 "person" (ad K (210 + 2)) s
      rw [h210]
      exact vk_R.of (tbl hts 616 (by decide +kernel)) (E0 2 (by decide))
    · show vk_R RX6 88 "at" (ad K (210 + 3)) s
      rw [h210]
      exact vk_R.of (tbl hts 617 (by decide +kernel)) (E0 3 (by decide))
    · show vk_R RX6 90 "wind" (ad K (210 + 4)) s
      rw [h210]
      exact vk_R.of (tbl hts 618 (by decide +kernel)) (E0 4 (by decide))
    · show vk_R RX6 92 "day" (ad K (210 + 5)) s
      rw [h210]
      exact vk_R.of (tbl hts 619 (by decide +kernel)) (E0 5 (by decide))
    · show vk_R RX6 94 "lent" (ad K (210 + 6)) s
      rw [h210]
      exact vk_R.of (tbl hts 620 (by decide +kernel)) (E0 6 (by decide))
    · show vk_R RX9 185 "cells" (ad K (210 + 0)) s
      rw [h210]
      exact vk_R.of (tbl hts 1409 (by decide +kernel)) (va_eqR (t := .string RX6 78) (u := .string RX9 185) (hs _ (by decide +kernel)) (E0 0 (by decide)))
    · show vk_R RX9 170 "window" (ad K (210 + 1)) s
      rw [h210]
      exact vk_R.of (tbl hts 1385 (by decide +kernel)) (va_eqR (t := .string RX6 84) (u := .string RX9 170) (hs _ (by decide +kernel)) (E0 1 (by decide)))
    · show vk_R RX9 180 "person" (ad K (210 + 2)) s
      rw [h210]
      exact vk_R.of (tbl hts 1404 (by decide +kernel)) (va_eqR (t := .string RX6 86) (u := .string RX9 180) (hs _ (by decide +kernel)) (E0 2 (by decide)))
    · show vk_R RX9 187 "at" (ad K (210 + 3)) s
      rw [h210]
      exact vk_R.of (tbl hts 1410 (by decide +kernel)) (va_eqR (t := .string RX6 88) (u := .string RX9 187) (hs _ (by decide +kernel)) (E0 3 (by decide)))
    · show vk_R RX9 188 "wind" (ad K (210 + 4)) s
      rw [h210]
      exact vk_R.of (tbl hts 1411 (by decide +kernel)) (va_eqR (t := .string RX6 90) (u := .string RX9 188) (hs _ (by decide +kernel)) (E0 4 (by decide)))
    · show vk_R RX9 190 "day" (ad K (210 + 5)) s
      rw [h210]
      exact vk_R.of (tbl hts 1412 (by decide +kernel)) (va_eqR (t := .string RX6 92) (u := .string RX9 190) (hs _ (by decide +kernel)) (E0 5 (by decide)))
    · show vk_R RX9 192 "lent" (ad K (210 + 6)) s
      rw [h210]
      exact vk_R.of (tbl hts 1413 (by decide +kernel)) (va_eqR (t := .string RX6 94) (u := .string RX9 192) (hs _ (by decide +kernel)) (E0 6 (by decide)))
  · rw [show (fun i => ad K (210 + i)) = adK from funext h210, hsv]
    exact S0.narrow hAB
end Start
