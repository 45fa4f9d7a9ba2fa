/-! ===== the law's loop, put together ===== -/
section LawLoop
variable {G : GT} {K : KT} {b L : Nat} {xs : Nat → Int32}
theorem and63 (x : Int32) : ∃ k, k < 64 ∧ x &&& 63 = nI k := by
  refine ⟨(x.toBitVec &&& 63#32).toNat, ?_, ?_⟩
  · rw [BitVec.toNat_and]
    exact Nat.lt_succ_of_le Nat.and_le_right
  · apply Int32.toBitVec_inj.mp
    rw [Int32.toBitVec_and]
    show _ = BitVec.ofNat 32 _
    rw [BitVec.ofNat_toNat, BitVec.setWidth_eq]
    rfl
theorem law_end {i : Nat} (hL : L ≤ 3072) (hi : i ≤ L) : (nI L - 6 < nI i) ↔ L < i + 6 := by
  rcases Nat.lt_or_ge L 6 with q | q
  · have h : nI L - 6 < 0 := (by decide : ∀ L, L < 6 → nI L - 6 < 0) L q
    exact ⟨fun _ => by omega, fun _ => Int32.lt_of_lt_of_le h (nI_pos' (by omega))⟩
  · rw [show nI L - 6 = nI (L - 6) from pk_sub q, nI_ltI (by omega) (by omega)]
    omega
theorem law_go (hG : GF G K RL cL_law 13) (hX : SC G K b L xs) (hL : L ≤ 3072) {i k : Nat} {M : MT} (hk : k < 64) (hi : i + 6 ≤ L) (hx : OKX M) (hr : R2 M M) (hn : NX G K b i) : J G K M 33 [some (.ref b), some (rf K 0), some (rf K 140), some (.int (nI i))] [.int (nI k)] := by
  have h0 : 0 ≤ k := Nat.zero_le k
  rcases Nat.eq_or_lt_of_le h0 with e | h1
  · subst e
    exact r_tableIn (pc := 33) (off := 251) (tgt := 284) hG dL_law_33 (by decide) (by decide) (by decide) (by decide) (law_0 hG hX hL hi hx hr hn)
  replace h1 : 1 ≤ k := h1
  rcases Nat.eq_or_lt_of_le h1 with e | h2
  · subst e
    exact r_tableIn (pc := 33) (off := 294) (tgt := 327) hG dL_law_33 (by decide) (by decide) (by decide) (by decide) (law_1 hG hX hL hi hx hr hn)
  replace h2 : 2 ≤ k := h2
  rcases Nat.eq_or_lt_of_le h2 with e | h3
  · subst e
    exact r_tableIn (pc := 33) (off := 367) (tgt := 400) hG dL_law_33 (by decide) (by decide) (by decide) (by decide) (law_2 hG hX hL hi hx hr hn)
  replace h3 : 3 ≤ k := h3
  rcases Nat.eq_or_lt_of_le h3 with e | h4
  · subst e
    exact r_tableIn (pc := 33) (off := 430) (tgt := 463) hG dL_law_33 (by decide) (by decide) (by decide) (by decide) (law_3 hG hX hL hi hx hr hn)
  replace h4 : 4 ≤ k := h4
  rcases Nat.eq_or_lt_of_le h4 with e | h5
  · subst e
    exact r_tableIn (pc := 33) (off := 464) (tgt := 497) hG dL_law_33 (by decide) (by decide) (by decide) (by decide) (law_4 hG hX hL hi hx hr hn)
  replace h5 : 5 ≤ k := h5
  rcases Nat.eq_or_lt_of_le h5 with e | h6
  · subst e
    exact r_tableIn (pc := 33) (off := 487) (tgt := 520) hG dL_law_33 (by decide) (by decide) (by decide) (by decide) (law_5 hG hX hL hi hx hr hn)
  replace h6 : 6 ≤ k := h6
  rcases Nat.eq_or_lt_of_le h6 with e | h7
  · subst e
    exact r_tableIn (pc := 33) (off := 520) (tgt := 553) hG dL_law_33 (by decide) (by decide) (by decide) (by decide) (law_6 hG hX hL hi hx hr hn)
  replace h7 : 7 ≤ k := h7
  rcases Nat.eq_or_lt_of_le h7 with e | h8
  · subst e
    exact r_tableIn (pc := 33) (off := 553) (tgt := 586) hG dL_law_33 (by decide) (by decide) (by decide) (by decide) (law_7 hG hX hL hi hx hr hn)
  replace h8 : 8 ≤ k := h8
  rcases Nat.eq_or_lt_of_le h8 with e | h9
  · subst e
    exact r_tableIn (pc := 33) (off := 576) (tgt := 609) hG dL_law_33 (by decide) (by decide) (by decide) (by decide) (law_8 hG hX hL hi hx hr hn)
  replace h9 : 9 ≤ k := h9
  rcases Nat.eq_or_lt_of_le h9 with e | h10
  · subst e
    exact r_tableIn (pc := 33) (off := 619) (tgt := 652) hG dL_law_33 (by decide) (by decide) (by decide) (by decide) (law_9 hG hX hL hi hx hr hn)
  replace h10 : 10 ≤ k := h10
  rcases Nat.eq_or_lt_of_le h10 with e | h11
  · subst e
    exact r_tableIn (pc := 33) (off := 662) (tgt := 695) hG dL_law_33 (by decide) (by decide) (by decide) (by decide) (law_10 hG hX hL hi hx hr hn)
  replace h11 : 11 ≤ k := h11
  rcases Nat.eq_or_lt_of_le h11 with e | h12
  · subst e
    exact r_tableIn (pc := 33) (off := 695) (tgt := 728) hG dL_law_33 (by decide) (by decide) (by decide) (by decide) (law_11 hG hX hL hi hx hr hn)
  replace h12 : 12 ≤ k := h12
  rcases Nat.eq_or_lt_of_le h12 with e | h13
  · subst e
    exact r_tableIn (pc := 33) (off := 728) (tgt := 761) hG dL_law_33 (by decide) (by decide) (by decide) (by decide) (law_12 hG hX hL hi hx hr hn)
  replace h13 : 13 ≤ k := h13
  rcases Nat.eq_or_lt_of_le h13 with e | h14
  · subst e
    exact r_tableIn (pc := 33) (off := 751) (tgt := 784) hG dL_law_33 (by decide) (by decide) (by decide) (by decide) (law_13 hG hX hL hi hx hr hn)
  replace h14 : 14 ≤ k := h14
  rcases Nat.eq_or_lt_of_le h14 with e | h15
  · subst e
    exact r_tableIn (pc := 33) (off := 764) (tgt := 797) hG dL_law_33 (by decide) (by decide) (by decide) (by decide) (law_14 hG hX hL hi hx hr hn)
  replace h15 : 15 ≤ k := h15
  rcases Nat.eq_or_lt_of_le h15 with e | h16
  · subst e
    exact r_tableIn (pc := 33) (off := 777) (tgt := 810) hG dL_law_33 (by decide) (by decide) (by decide) (by decide) (law_15 hG hX hL hi hx hr hn)
  replace h16 : 16 ≤ k := h16
  rcases Nat.eq_or_lt_of_le h16 with e | h17
  · subst e
    exact r_tableIn (pc := 33) (off := 810) (tgt := 843) hG dL_law_33 (by decide) (by decide) (by decide) (by decide) (law_16 hG hX hL hi hx hr hn)
  replace h17 : 17 ≤ k := h17
  rcases Nat.eq_or_lt_of_le h17 with e | h18
  · subst e
    exact r_tableIn (pc := 33) (off := 843) (tgt := 876) hG dL_law_33 (by decide) (by decide) (by decide) (by decide) (law_17 hG hX hL hi hx hr hn)
  replace h18 : 18 ≤ k := h18
  rcases Nat.eq_or_lt_of_le h18 with e | h19
  · subst e
    exact r_tableIn (pc := 33) (off := 886) (tgt := 919) hG dL_law_33 (by decide) (by decide) (by decide) (by decide) (law_18 hG hX hL hi hx hr hn)
  replace h19 : 19 ≤ k := h19
  rcases Nat.eq_or_lt_of_le h19 with e | h20
  · subst e
    exact r_tableIn (pc := 33) (off := 929) (tgt := 962) hG dL_law_33 (by decide) (by decide) (by decide) (by decide) (law_19 hG hX hL hi hx hr hn)
  replace h20 : 20 ≤ k := h20
  rcases Nat.eq_or_lt_of_le h20 with e | h21
  · subst e
    exact r_tableIn (pc := 33) (off := 962) (tgt := 995) hG dL_law_33 (by decide) (by decide) (by decide) (by decide) (law_20 hG hX hL hi hx hr hn)
  replace h21 : 21 ≤ k := h21
  rcases Nat.eq_or_lt_of_le h21 with e | h22
  · subst e
    exact r_tableIn (pc := 33) (off := 995) (tgt := 1028) hG dL_law_33 (by decide) (by decide) (by decide) (by decide) (law_21 hG hX hL hi hx hr hn)
  replace h22 : 22 ≤ k := h22
  rcases Nat.eq_or_lt_of_le h22 with e | h23
  · subst e
    exact r_tableIn (pc := 33) (off := 1038) (tgt := 1071) hG dL_law_33 (by decide) (by decide) (by decide) (by decide) (law_22 hG hX hL hi hx hr hn)
  replace h23 : 23 ≤ k := h23
  rcases Nat.eq_or_lt_of_le h23 with e | h24
  · subst e
    exact r_tableIn (pc := 33) (off := 1061) (tgt := 1094) hG dL_law_33 (by decide) (by decide) (by decide) (by decide) (law_23 hG hX hL hi hx hr hn)
  replace h24 : 24 ≤ k := h24
  rcases Nat.eq_or_lt_of_le h24 with e | h25
  · subst e
    exact r_tableIn (pc := 33) (off := 1094) (tgt := 1127) hG dL_law_33 (by decide) (by decide) (by decide) (by decide) (law_24 hG hX hL hi hx hr hn)
  replace h25 : 25 ≤ k := h25
  rcases Nat.eq_or_lt_of_le h25 with e | h26
  · subst e
    exact r_tableIn (pc := 33) (off := 1137) (tgt := 1170) hG dL_law_33 (by decide) (by decide) (by decide) (by decide) (law_25 hG hX hL hi hx hr hn)
  replace h26 : 26 ≤ k := h26
  rcases Nat.eq_or_lt_of_le h26 with e | h27
  · subst e
    exact r_tableIn (pc := 33) (off := 1170) (tgt := 1203) hG dL_law_33 (by decide) (by decide) (by decide) (by decide) (law_26 hG hX hL hi hx hr hn)
  replace h27 : 27 ≤ k := h27
  rcases Nat.eq_or_lt_of_le h27 with e | h28
  · subst e
    exact r_tableIn (pc := 33) (off := 1193) (tgt := 1226) hG dL_law_33 (by decide) (by decide) (by decide) (by decide) (law_27 hG hX hL hi hx hr hn)
  replace h28 : 28 ≤ k := h28
  rcases Nat.eq_or_lt_of_le h28 with e | h29
  · subst e
    exact r_tableIn (pc := 33) (off := 1226) (tgt := 1259) hG dL_law_33 (by decide) (by decide) (by decide) (by decide) (law_28 hG hX hL hi hx hr hn)
  replace h29 : 29 ≤ k := h29
  rcases Nat.eq_or_lt_of_le h29 with e | h30
  · subst e
    exact r_tableIn (pc := 33) (off := 1269) (tgt := 1302) hG dL_law_33 (by decide) (by decide) (by decide) (by decide) (law_29 hG hX hL hi hx hr hn)
  replace h30 : 30 ≤ k := h30
  rcases Nat.eq_or_lt_of_le h30 with e | h31
  · subst e
    exact r_tableIn (pc := 33) (off := 1322) (tgt := 1355) hG dL_law_33 (by decide) (by decide) (by decide) (by decide) (law_30 hG hX hL hi hx hr hn)
  replace h31 : 31 ≤ k := h31
  rcases Nat.eq_or_lt_of_le h31 with e | h32
  · subst e
    exact r_tableIn (pc := 33) (off := 1355) (tgt := 1388) hG dL_law_33 (by decide) (by decide) (by decide) (by decide) (law_31 hG hX hL hi hx hr hn)
  replace h32 : 32 ≤ k := h32
  rcases Nat.eq_or_lt_of_le h32 with e | h33
  · subst e
    exact r_tableIn (pc := 33) (off := 1388) (tgt := 1421) hG dL_law_33 (by decide) (by decide) (by decide) (by decide) (law_32 hG hX hL hi hx hr hn)
  replace h33 : 33 ≤ k := h33
  rcases Nat.eq_or_lt_of_le h33 with e | h34
  · subst e
    exact r_tableIn (pc := 33) (off := 1411) (tgt := 1444) hG dL_law_33 (by decide) (by decide) (by decide) (by decide) (law_33 hG hX hL hi hx hr hn)
  replace h34 : 34 ≤ k := h34
  rcases Nat.eq_or_lt_of_le h34 with e | h35
  · subst e
    exact r_tableIn (pc := 33) (off := 1444) (tgt := 1477) hG dL_law_33 (by decide) (by decide) (by decide) (by decide) (law_34 hG hX hL hi hx hr hn)
  replace h35 : 35 ≤ k := h35
  rcases Nat.eq_or_lt_of_le h35 with e | h36
  · subst e
    exact r_tableIn (pc := 33) (off := 1497) (tgt := 1530) hG dL_law_33 (by decide) (by decide) (by decide) (by decide) (law_35 hG hX hL hi hx hr hn)
  replace h36 : 36 ≤ k := h36
  rcases Nat.eq_or_lt_of_le h36 with e | h37
  · subst e
    exact r_tableIn (pc := 33) (off := 1520) (tgt := 1553) hG dL_law_33 (by decide) (by decide) (by decide) (by decide) (law_36 hG hX hL hi hx hr hn)
  replace h37 : 37 ≤ k := h37
  rcases Nat.eq_or_lt_of_le h37 with e | h38
  · subst e
    exact r_tableIn (pc := 33) (off := 1543) (tgt := 1576) hG dL_law_33 (by decide) (by decide) (by decide) (by decide) (law_37 hG hX hL hi hx hr hn)
  replace h38 : 38 ≤ k := h38
  rcases Nat.eq_or_lt_of_le h38 with e | h39
  · subst e
    exact r_tableIn (pc := 33) (off := 1576) (tgt := 1609) hG dL_law_33 (by decide) (by decide) (by decide) (by decide) (law_38 hG hX hL hi hx hr hn)
  replace h39 : 39 ≤ k := h39
  rcases Nat.eq_or_lt_of_le h39 with e | h40
  · subst e
    exact r_tableIn (pc := 33) (off := 1599) (tgt := 1632) hG dL_law_33 (by decide) (by decide) (by decide) (by decide) (law_39 hG hX hL hi hx hr hn)
  replace h40 : 40 ≤ k := h40
  rcases Nat.eq_or_lt_of_le h40 with e | h41
  · subst e
    exact r_tableIn (pc := 33) (off := 1622) (tgt := 1655) hG dL_law_33 (by decide) (by decide) (by decide) (by decide) (law_40 hG hX hL hi hx hr hn)
  replace h41 : 41 ≤ k := h41
  rcases Nat.eq_or_lt_of_le h41 with e | h42
  · subst e
    exact r_tableIn (pc := 33) (off := 1645) (tgt := 1678) hG dL_law_33 (by decide) (by decide) (by decide) (by decide) (law_41 hG hX hL hi hx hr hn)
  replace h42 : 42 ≤ k := h42
  rcases Nat.eq_or_lt_of_le h42 with e | h43
  · subst e
    exact r_tableIn (pc := 33) (off := 1698) (tgt := 1731) hG dL_law_33 (by decide) (by decide) (by decide) (by decide) (law_42 hG hX hL hi hx hr hn)
  replace h43 : 43 ≤ k := h43
  rcases Nat.eq_or_lt_of_le h43 with e | h44
  · subst e
    exact r_tableIn (pc := 33) (off := 1721) (tgt := 1754) hG dL_law_33 (by decide) (by decide) (by decide) (by decide) (law_43 hG hX hL hi hx hr hn)
  replace h44 : 44 ≤ k := h44
  rcases Nat.eq_or_lt_of_le h44 with e | h45
  · subst e
    exact r_tableIn (pc := 33) (off := 1734) (tgt := 1767) hG dL_law_33 (by decide) (by decide) (by decide) (by decide) (law_44 hG hX hL hi hx hr hn)
  replace h45 : 45 ≤ k := h45
  rcases Nat.eq_or_lt_of_le h45 with e | h46
  · subst e
    exact r_tableIn (pc := 33) (off := 1767) (tgt := 1800) hG dL_law_33 (by decide) (by decide) (by decide) (by decide) (law_45 hG hX hL hi hx hr hn)
  replace h46 : 46 ≤ k := h46
  rcases Nat.eq_or_lt_of_le h46 with e | h47
  · subst e
    exact r_tableIn (pc := 33) (off := 1790) (tgt := 1823) hG dL_law_33 (by decide) (by decide) (by decide) (by decide) (law_46 hG hX hL hi hx hr hn)
  replace h47 : 47 ≤ k := h47
  rcases Nat.eq_or_lt_of_le h47 with e | h48
  · subst e
    exact r_tableIn (pc := 33) (off := 1813) (tgt := 1846) hG dL_law_33 (by decide) (by decide) (by decide) (by decide) (law_47 hG hX hL hi hx hr hn)
  replace h48 : 48 ≤ k := h48
  rcases Nat.eq_or_lt_of_le h48 with e | h49
  · subst e
    exact r_tableIn (pc := 33) (off := 1836) (tgt := 1869) hG dL_law_33 (by decide) (by decide) (by decide) (by decide) (law_48 hG hX hL hi hx hr hn)
  replace h49 : 49 ≤ k := h49
  rcases Nat.eq_or_lt_of_le h49 with e | h50
  · subst e
    exact r_tableIn (pc := 33) (off := 1859) (tgt := 1892) hG dL_law_33 (by decide) (by decide) (by decide) (by decide) (law_49 hG hX hL hi hx hr hn)
  replace h50 : 50 ≤ k := h50
  rcases Nat.eq_or_lt_of_le h50 with e | h51
  · subst e
    exact r_tableIn (pc := 33) (off := 1882) (tgt := 1915) hG dL_law_33 (by decide) (by decide) (by decide) (by decide) (law_50 hG hX hL hi hx hr hn)
  replace h51 : 51 ≤ k := h51
  rcases Nat.eq_or_lt_of_le h51 with e | h52
  · subst e
    exact r_tableIn (pc := 33) (off := 1915) (tgt := 1948) hG dL_law_33 (by decide) (by decide) (by decide) (by decide) (law_51 hG hX hL hi hx hr hn)
  replace h52 : 52 ≤ k := h52
  rcases Nat.eq_or_lt_of_le h52 with e | h53
  · subst e
    exact r_tableIn (pc := 33) (off := 1958) (tgt := 1991) hG dL_law_33 (by decide) (by decide) (by decide) (by decide) (law_52 hG hX hL hi hx hr hn)
  replace h53 : 53 ≤ k := h53
  rcases Nat.eq_or_lt_of_le h53 with e | h54
  · subst e
    exact r_tableIn (pc := 33) (off := 2001) (tgt := 2034) hG dL_law_33 (by decide) (by decide) (by decide) (by decide) (law_53 hG hX hL hi hx hr hn)
  replace h54 : 54 ≤ k := h54
  rcases Nat.eq_or_lt_of_le h54 with e | h55
  · subst e
    exact r_tableIn (pc := 33) (off := 2024) (tgt := 2057) hG dL_law_33 (by decide) (by decide) (by decide) (by decide) (law_54 hG hX hL hi hx hr hn)
  replace h55 : 55 ≤ k := h55
  rcases Nat.eq_or_lt_of_le h55 with e | h56
  · subst e
    exact r_tableIn (pc := 33) (off := 2047) (tgt := 2080) hG dL_law_33 (by decide) (by decide) (by decide) (by decide) (law_55 hG hX hL hi hx hr hn)
  replace h56 : 56 ≤ k := h56
  rcases Nat.eq_or_lt_of_le h56 with e | h57
  · subst e
    exact r_tableIn (pc := 33) (off := 2070) (tgt := 2103) hG dL_law_33 (by decide) (by decide) (by decide) (by decide) (law_56 hG hX hL hi hx hr hn)
  replace h57 : 57 ≤ k := h57
  rcases Nat.eq_or_lt_of_le h57 with e | h58
  · subst e
    exact r_tableIn (pc := 33) (off := 2083) (tgt := 2116) hG dL_law_33 (by decide) (by decide) (by decide) (by decide) (law_57 hG hX hL hi hx hr hn)
  replace h58 : 58 ≤ k := h58
  rcases Nat.eq_or_lt_of_le h58 with e | h59
  · subst e
    exact r_tableIn (pc := 33) (off := 2096) (tgt := 2129) hG dL_law_33 (by decide) (by decide) (by decide) (by decide) (law_58 hG hX hL hi hx hr hn)
  replace h59 : 59 ≤ k := h59
  refine r_tableOut (pc := 33) (tgt := 2152) hG dL_law_33 (Or.inr ?_) (by decide) (hn M hx hr)
  rw [nI_toInt (by omega)]
  omega
/-- from the head of the loop, with i ints read, the law comes to its end with true -/
theorem law_loop (hG : GF G K RL cL_law 13) (hX : SC G K b L xs) (hL : L ≤ 3072) (hret : ∀ M i, J G K M 2159 [some (.ref b), some (rf K 0), some (rf K 140), some (.int (nI i))] [.int 1]) : ∀ (n i : Nat) (M : MT), L < i + n → i ≤ L → OKX M → R2 M M → J G K M 18 [some (.ref b), some (rf K 0), some (rf K 140), some (.int (nI i))] [] := by
  intro n
  induction n with
  | zero => intro i M h1 h2; omega
  | succ n ih =>
    intro i M h1 h2 hx hr
    refine r_iload_n (pc := 18) hG dL_law_18 rfl ?_
    refine r_aloadR (pc := 19) hG dL_law_19 rfl ?_
    refine r_slen (pc := 20) hG hX dL_law_20 ?_
    refine r_bipush (v := 6) (pc := 21) hG dL_law_21 rfl ?_
    refine r_isub (pc := 23) hG dL_law_23 ?_
    refine r_icmp_gt (pc := 24) (tgt := 2158) hG dL_law_24 (by decide) (fun _ => ?_) (fun c => ?_)
    · exact r_iconst (v := 1) (pc := 2158) hG dL_law_2158 rfl (hret M i)
    · have hi : i + 6 ≤ L := by
        have := mt (law_end hL h2).mpr c
        omega
      refine r_aloadR (pc := 27) hG dL_law_27 rfl ?_
      refine r_iload_n (pc := 28) hG dL_law_28 rfl ?_
      refine r_sld (pc := 29) (j := i) hG hX dL_law_29 (ix_nI (by omega) (by omega)) ?_
      refine r_bipush (v := 63) (pc := 30) hG dL_law_30 rfl ?_
      refine r_iand (pc := 32) hG dL_law_32 ?_
      obtain ⟨k, hk, e⟩ := and63 (xs i)
      rw [e]
      refine law_go hG hX hL hk hi hx hr (fun M' hx' hr' => ?_)
      refine r_iinc (pc := 2152) (i := 3) (v := nI (i + 6)) (ls' := [some (.ref b), some (rf K 0), some (rf K 140), some (.int (nI (i + 6)))]) hG dL_law_2152 rfl (nI_add i 6) rfl rfl ?_
      refine r_goto (pc := 2155) (tgt := 18) hG dL_law_2155 (by decide) ?_
      exact ih (i + 6) M' (by omega) (by omega) hx' hr'
end LawLoop
