theorem xInv.clear {n : Nat} {P : am_S} (hv : xInv n P) : xInv n (un P 0 0) := by
  obtain ⟨hA, hB, hC, hD, hE, hF, hG, hH, hM⟩ := hv
  exact ⟨hA, hB, hC, hD, hE, hF, hG, hH, Nat.zero_le _, fun k hk => absurd hk (Nat.not_lt_zero k), hM.2.2⟩
theorem xInv.seed {n : Nat} {P : am_S} (hv : xInv n P) (a : Int32) : xInv n (ui P 4 a) :=
  xInv.cg (P := P) rfl rfl (fun j hj => up_ne _ _ hj) hv
/-! the law's loop, its start -/
theorem cp_1 : ¬ (1 : Int32) < 0 := by decide
theorem cp_1b : (1 : Int32).toNatClampNeg = 1 := rfl
theorem law_cmp {L i : Nat} (hL : L ≤ 2048) (hi : i ≤ 2048) : (Int32.ofNat L - 4 < Int32.ofNat i) = (L < i + 4) := by
  rw [Int32.lt_iff_toInt_lt, Int32.toInt_sub, Int32.toInt_ofNat_of_lt (by omega), Int32.toInt_ofNat_of_lt (by omega), show (4 : Int32).toInt = 4 from rfl]
  rw [show ((L : Int) - 4).bmod (2 ^ 32) = (L : Int) - 4 from Int.bmod_eq_of_le_mul_two (by omega) (by omega)]
  exact propext ⟨fun h => by omega, fun h => by omega⟩
theorem law_body {i L n : Nat} {s : Nat → Int32} {l : am_L} {M : am_M} {P : am_S} {Post : (Option Value ⊕ Nat) → am_M → Prop} (hi : i + 4 ≤ L) (hL : L ≤ 2048) (hl : LL l i) (hs : lSt P n M) (hv : xInv n P) (hn9 : n ≤ 600)
    (K : ∀ P' l' M', xInv (n + 1) P' → LL l' i → lSt P' (n + 1) M' → am_W 14 (some (L, s)) 232 3089 l' [] M' Post) : ∀ k, k < 52 → am_W 14 (some (L, s)) 232 ([268, 348, 416, 429, 485, 498, 512, 525, 580, 636, 735, 791, 879, 923, 936, 991, 1047, 1072, 1128, 1183, 1238, 1294, 1338, 1382, 1426, 1481, 1494, 1550, 1606, 1662, 1730, 1785, 1798, 1885, 1952, 2007, 2074, 2149, 2217, 2272, 2327, 2414, 2470, 2547, 2624, 2680, 2735, 2812, 2889, 2966, 3021, 3076].getD k 3089) l [] M Post := by
  have hI := hv.hI
  obtain ⟨G, r⟩ := hs.1
  have hlo := xm_lo r
  intro k hk
  match k, hk with
  | 0, _ =>
    rcases st_0 hv ((s (i + 1)).toInt64 <<< ((32 : Int32).toInt64 &&& 63) ||| (s (i + 2)).toInt64 &&& 4294967295) (s (i + 3)) with ⟨P9, hi9, ⟨hx, hm⟩ | ⟨kk, hk, hw, hm⟩⟩
    · exact lc_0t hi hL hl hs hx hm (fun l' M' => K _ l' M' hi9)
    · exact lc_0e hi hL hl hs hk hw hm (fun l' M' => K _ l' M' hi9)
  | 1, _ =>
    rcases st_1 hv (s (i + 1)) (s (i + 2)) with ⟨P9, hi9, ⟨y, hx, hm⟩ | ⟨kk, y, hk, hw, hm⟩⟩
    · exact lc_1t hi hL hl hs hx hm (fun l' M' => K _ l' M' hi9)
    · exact lc_1e hi hL hl hs hk hw hm (fun l' M' => K _ l' M' hi9)
  | 2, _ => exact lc_2 hi hL hl hs xo_30 mo_111 (fun l' M' => K _ l' M' (hv.up.clear))
  | 3, _ =>
    rcases st_3 hv (s (i + 1)) with ⟨P9, hi9, ⟨y, hx, hm⟩ | ⟨kk, y, hk, hw, hm⟩⟩
    · exact lc_3t hi hL hl hs hx hm (fun l' M' => K _ l' M' hi9)
    · exact lc_3e hi hL hl hs hk hw hm (fun l' M' => K _ l' M' hi9)
  | 4, _ => exact lc_4 hi hL hl hs xo_32 mo_116 (fun l' M' => K _ l' M' hv.up)
  | 5, _ => exact lc_5 hi hL hl hs xo_33 mo_117 (fun l' M' => K _ l' M' hv.up)
  | 6, _ => exact lc_6 hi hL hl hs xo_34 mo_118 (fun l' M' => K _ l' M' hv.up)
  | 7, _ =>
    rcases st_7 hv (s (i + 1)) with ⟨P9, hi9, ⟨y, hx, hm⟩ | ⟨kk, y, hk, hw, hm⟩⟩
    · exact lc_7t hi hL hl hs hx hm (fun l' M' => K _ l' M' hi9)
    · exact lc_7e hi hL hl hs hk hw hm (fun l' M' => K _ l' M' hi9)
  | 8, _ =>
    rcases st_8 hv (s (i + 1)) with ⟨P9, hi9, ⟨y, hx, hm⟩ | ⟨kk, y, hk, hw, hm⟩⟩
    · exact lc_8t hi hL hl hs hx hm (fun l' M' => K _ l' M' hi9)
    · exact lc_8e hi hL hl hs hk hw hm (fun l' M' => K _ l' M' hi9)
  | 9, _ =>
    rcases st_9 hv (s (i + 1)) ((s (i + 2)).toInt64 <<< ((32 : Int32).toInt64 &&& 63) ||| (s (i + 3)).toInt64 &&& 4294967295) with ⟨P9, hi9, ⟨y, hx, hm⟩ | ⟨kk, y, hk, hw, hm⟩⟩
    · exact lc_9t hi hL hl hs hx hm (fun l' M' => K _ l' M' hi9)
    · exact lc_9e hi hL hl hs hk hw hm (fun l' M' => K _ l' M' hi9)
  | 10, _ =>
    rcases st_10 hv (s (i + 1)) with ⟨P9, hi9, ⟨y, hx, hm⟩ | ⟨kk, y, hk, hw, hm⟩⟩
    · exact lc_10t hi hL hl hs hx hm (fun l' M' => K _ l' M' hi9)
    · exact lc_10e hi hL hl hs hk hw hm (fun l' M' => K _ l' M' hi9)
  | 11, _ =>
    rcases st_11 hv ((s (i + 1)).toInt64 <<< ((32 : Int32).toInt64 &&& 63) ||| (s (i + 2)).toInt64 &&& 4294967295) with ⟨P9, hi9, ⟨y, hx, hm⟩ | ⟨kk, y, hk, hw, hm⟩⟩
    · exact lc_11t hi hL hl hs hx hm (fun l' M' => K _ l' M' hi9)
    · exact lc_11e hi hL hl hs hk hw hm (fun l' M' => K _ l' M' hi9)
  | 12, _ =>
    rcases st_12 hv  with ⟨P9, hi9, ⟨y, hx, hm⟩ | ⟨kk, y, hk, hw, hm⟩⟩
    · exact lc_12t hi hL hl hs hx hm (fun l' M' => K _ l' M' hi9)
    · exact lc_12e hi hL hl hs hk hw hm (fun l' M' => K _ l' M' hi9)
  | 13, _ => exact lc_13 hi hL hl hs xo_41 mo_126 (fun l' M' => K _ l' M' hv.up)
  | 14, _ =>
    rcases st_14 hv (s (i + 1)) with ⟨P9, hi9, ⟨y, hx, hm⟩ | ⟨kk, y, hk, hw, hm⟩⟩
    · exact lc_14t hi hL hl hs hx hm (fun l' M' => K _ l' M' hi9)
    · exact lc_14e hi hL hl hs hk hw hm (fun l' M' => K _ l' M' hi9)
  | 15, _ =>
    rcases st_15 hv (s (i + 1)) with ⟨P9, hi9, ⟨y, hx, hm⟩ | ⟨kk, y, hk, hw, hm⟩⟩
    · exact lc_15t hi hL hl hs hx hm (fun l' M' => K _ l' M' hi9)
    · exact lc_15e hi hL hl hs hk hw hm (fun l' M' => K _ l' M' hi9)
  | 16, _ => exact lc_16 hi hL hl hs (xo_44 (s (i + 1))) (mo_129 (s (i + 1))) (fun l' M' => K _ l' M' (hv.up.seed _))
  | 17, _ =>
    rcases st_17 hv (s (i + 1)) with ⟨P9, hi9, ⟨y, hx, hm⟩ | ⟨kk, y, hk, hw, hm⟩⟩
    · exact lc_17t hi hL hl hs hx hm (fun l' M' => K _ l' M' hi9)
    · exact lc_17e hi hL hl hs hk hw hm (fun l' M' => K _ l' M' hi9)
  | 18, _ =>
    rcases st_18 hv (s (i + 1)) with ⟨P9, hi9, ⟨y, hx, hm⟩ | ⟨kk, y, hk, hw, hm⟩⟩
    · exact lc_18t hi hL hl hs hx hm (fun l' M' => K _ l' M' hi9)
    · exact lc_18e hi hL hl hs hk hw hm (fun l' M' => K _ l' M' hi9)
  | 19, _ =>
    rcases st_19 hv (s (i + 1)) with ⟨P9, hi9, ⟨y, hx, hm⟩ | ⟨kk, y, hk, hw, hm⟩⟩
    · exact lc_19t hi hL hl hs hx hm (fun l' M' => K _ l' M' hi9)
    · exact lc_19e hi hL hl hs hk hw hm (fun l' M' => K _ l' M' hi9)
  | 20, _ =>
    rcases st_20 hv (s (i + 1)) with ⟨P9, hi9, ⟨y, hx, hm⟩ | ⟨kk, y, hk, hw, hm⟩⟩
    · exact lc_20t hi hL hl hs hx hm (fun l' M' => K _ l' M' hi9)
    · exact lc_20e hi hL hl hs hk hw hm (fun l' M' => K _ l' M' hi9)
  | 21, _ =>
    rcases st_21 hv  with ⟨P9, hi9, ⟨y, hx, hm⟩ | ⟨kk, y, hk, hw, hm⟩⟩
    · exact lc_21t hi hL hl hs hx hm (fun l' M' => K _ l' M' hi9)
    · exact lc_21e hi hL hl hs hk hw hm (fun l' M' => K _ l' M' hi9)
  | 22, _ =>
    rcases st_22 hv  with ⟨P9, hi9, ⟨y, hx, hm⟩ | ⟨kk, y, hk, hw, hm⟩⟩
    · exact lc_22t hi hL hl hs hx hm (fun l' M' => K _ l' M' hi9)
    · exact lc_22e hi hL hl hs hk hw hm (fun l' M' => K _ l' M' hi9)
  | 23, _ =>
    rcases st_23 hv hn9 with ⟨P9, hi9, ⟨y, hx, hm⟩ | ⟨kk, y, hk, hw, hm⟩⟩
    · exact lc_23t hi hL hl hs hx hm (fun l' M' => K _ l' M' hi9)
    · exact lc_23e hi hL hl hs hk hw hm (fun l' M' => K _ l' M' hi9)
  | 24, _ =>
    rcases st_24 hv (s (i + 1)) hn9 with ⟨P9, hi9, ⟨y, hx, hm⟩ | ⟨kk, y, hk, hw, hm⟩⟩
    · exact lc_24t hi hL hl hs hx hm (fun l' M' => K _ l' M' hi9)
    · exact lc_24e hi hL hl hs hk hw hm (fun l' M' => K _ l' M' hi9)
  | 25, _ => exact lc_25 hi hL hl hs xo_53 mo_143 (fun l' M' => K _ l' M' hv.up)
  | 26, _ =>
    rcases st_26 hv (s (i + 1)) with ⟨P9, hi9, ⟨y, hx, hm⟩ | ⟨kk, y, hk, hw, hm⟩⟩
    · exact lc_26t hi hL hl hs hx hm (fun l' M' => K _ l' M' hi9)
    · exact lc_26e hi hL hl hs hk hw hm (fun l' M' => K _ l' M' hi9)
  | 27, _ =>
    rcases st_27 hv (s (i + 1)) with ⟨P9, hi9, ⟨y, hx, hm⟩ | ⟨kk, y, hk, hw, hm⟩⟩
    · exact lc_27t hi hL hl hs hx hm (fun l' M' => K _ l' M' hi9)
    · exact lc_27e hi hL hl hs hk hw hm (fun l' M' => K _ l' M' hi9)
  | 28, _ =>
    rcases st_28 hv (s (i + 1)) with ⟨P9, hi9, ⟨y, hx, hm⟩ | ⟨kk, y, hk, hw, hm⟩⟩
    · exact lc_28t hi hL hl hs hx hm (fun l' M' => K _ l' M' hi9)
    · exact lc_28e hi hL hl hs hk hw hm (fun l' M' => K _ l' M' hi9)
  | 29, _ =>
    rcases st_29 hv (s (i + 1)) (s (i + 2)) with ⟨P9, hi9, ⟨y, hx, hm⟩ | ⟨kk, y, hk, hw, hm⟩⟩
    · exact lc_29t hi hL hl hs hx hm (fun l' M' => K _ l' M' hi9)
    · exact lc_29e hi hL hl hs hk hw hm (fun l' M' => K _ l' M' hi9)
  | 30, _ =>
    rcases st_30 hv (s (i + 1)) with ⟨P9, hi9, ⟨y, hx, hm⟩ | ⟨kk, y, hk, hw, hm⟩⟩
    · exact lc_30t hi hL hl hs hx hm (fun l' M' => K _ l' M' hi9)
    · exact lc_30e hi hL hl hs hk hw hm (fun l' M' => K _ l' M' hi9)
  | 31, _ => exact lc_31 hi hL hl hs (xo_59 hI.1 (st_31 hv)) (mo_152 hI.1) (fun l' M' => K _ l' M' hv.up)
  | 32, _ =>
    rcases st_32 hv ((s (i + 1)).toInt64 <<< ((32 : Int32).toInt64 &&& 63) ||| (s (i + 2)).toInt64 &&& 4294967295) with ⟨P9, hi9, ⟨y, hx, hm⟩ | ⟨kk, y, hk, hw, hm⟩⟩
    · exact lc_32t hi hL hl hs hx hm (fun l' M' => K _ l' M' hi9)
    · exact lc_32e hi hL hl hs hk hw hm (fun l' M' => K _ l' M' hi9)
  | 33, _ =>
    rcases st_33 hv (s (i + 1)) (s (i + 2)) with ⟨P9, hi9, ⟨y, hx, hm⟩ | ⟨kk, y, hk, hw, hm⟩⟩
    · exact lc_33t hi hL hl hs hx hm (fun l' M' => K _ l' M' hi9)
    · exact lc_33e hi hL hl hs hk hw hm (fun l' M' => K _ l' M' hi9)
  | 34, _ =>
    rcases st_34 hv (s (i + 1)) with ⟨P9, hi9, ⟨y, hx, hm⟩ | ⟨kk, y, hk, hw, hm⟩⟩
    · exact lc_34t hi hL hl hs hx hm (fun l' M' => K _ l' M' hi9)
    · exact lc_34e hi hL hl hs hk hw hm (fun l' M' => K _ l' M' hi9)
  | 35, _ =>
    rcases st_35 hv (s (i + 1)) (s (i + 2)) with ⟨P9, hi9, ⟨y, hx, hm⟩ | ⟨kk, y, hk, hw, hm⟩⟩
    · exact lc_35t hi hL hl hs hx hm (fun l' M' => K _ l' M' hi9)
    · exact lc_35e hi hL hl hs hk hw hm (fun l' M' => K _ l' M' hi9)
  | 36, _ =>
    rcases st_36 hv (s (i + 1)) (s (i + 2)) with ⟨P9, hi9, ⟨hx, hm⟩ | ⟨hx, hm⟩ | ⟨kk, y, hk, hw, hm⟩⟩
    · exact lc_36t0 hi hL hl hs hx hm (fun l' M' => K _ l' M' hi9)
    · exact lc_36t1 hi hL hl hs hx hm (fun l' M' => K _ l' M' hi9)
    · exact lc_36e hi hL hl hs hk hw hm (fun l' M' => K _ l' M' hi9)
  | 37, _ =>
    rcases st_37 hv (s (i + 1)) (s (i + 2)) with ⟨P9, hi9, ⟨y, hx, hm⟩ | ⟨kk, y, hk, hw, hm⟩⟩
    · exact lc_37t hi hL hl hs hx hm (fun l' M' => K _ l' M' hi9)
    · exact lc_37e hi hL hl hs hk hw hm (fun l' M' => K _ l' M' hi9)
  | 38, _ =>
    rcases st_38 hv (s (i + 1)) with ⟨P9, hi9, ⟨y, hx, hm⟩ | ⟨kk, y, hk, hw, hm⟩⟩
    · exact lc_38t hi hL hl hs hx hm (fun l' M' => K _ l' M' hi9)
    · exact lc_38e hi hL hl hs hk hw hm (fun l' M' => K _ l' M' hi9)
  | 39, _ =>
    rcases st_39 hv (s (i + 1)) with ⟨P9, hi9, ⟨y, hx, hm⟩ | ⟨kk, y, hk, hw, hm⟩⟩
    · exact lc_39t hi hL hl hs hx hm (fun l' M' => K _ l' M' hi9)
    · exact lc_39e hi hL hl hs hk hw hm (fun l' M' => K _ l' M' hi9)
  | 40, _ =>
    rcases st_40 hv ((s (i + 1)).toInt64 <<< ((32 : Int32).toInt64 &&& 63) ||| (s (i + 2)).toInt64 &&& 4294967295) with ⟨P9, hi9, ⟨y, hx, hm⟩ | ⟨kk, y, hk, hw, hm⟩⟩
    · exact lc_40t hi hL hl hs hx hm (fun l' M' => K _ l' M' hi9)
    · exact lc_40e hi hL hl hs hk hw hm (fun l' M' => K _ l' M' hi9)
  | 41, _ =>
    rcases st_41 hv (s (i + 1)) with ⟨P9, hi9, ⟨y, hx, hm⟩ | ⟨kk, y, hk, hw, hm⟩⟩
    · exact lc_41t hi hL hl hs hx hm (fun l' M' => K _ l' M' hi9)
    · exact lc_41e hi hL hl hs hk hw hm (fun l' M' => K _ l' M' hi9)
  | 42, _ =>
    rcases st_42 hv (s (i + 1)) with ⟨P9, hi9, ⟨y, hx, hm⟩ | ⟨kk, y, hk, hw, hm⟩⟩
    · exact lc_42t hi hL hl hs hx hm (fun l' M' => K _ l' M' hi9)
    · exact lc_42e hi hL hl hs hk hw hm (fun l' M' => K _ l' M' hi9)
  | 43, _ =>
    rcases st_43 hv (s (i + 1)) with ⟨P9, hi9, ⟨y, hx, hm⟩ | ⟨kk, y, hk, hw, hm⟩⟩
    · exact lc_43t hi hL hl hs hx hm (fun l' M' => K _ l' M' hi9)
    · exact lc_43e hi hL hl hs hk hw hm (fun l' M' => K _ l' M' hi9)
  | 44, _ =>
    rcases st_44 hv (s (i + 1)) with ⟨P9, hi9, ⟨y, hx, hm⟩ | ⟨kk, y, hk, hw, hm⟩⟩
    · exact lc_44t hi hL hl hs hx hm (fun l' M' => K _ l' M' hi9)
    · exact lc_44e hi hL hl hs hk hw hm (fun l' M' => K _ l' M' hi9)
  | 45, _ =>
    rcases st_45 hv hlo (s (i + 1)) with ⟨P9, hi9, ⟨y, hx, hm⟩ | ⟨kk, y, hk, hw, hm⟩⟩
    · exact lc_45t hi hL hl hs hx hm (fun l' M' => K _ l' M' hi9)
    · exact lc_45e hi hL hl hs hk hw hm (fun l' M' => K _ l' M' hi9)
  | 46, _ =>
    rcases st_46 hv hlo (s (i + 1)) with ⟨P9, hi9, ⟨y, hx, hm⟩ | ⟨kk, y, hk, hw, hm⟩⟩
    · exact lc_46t hi hL hl hs hx hm (fun l' M' => K _ l' M' hi9)
    · exact lc_46e hi hL hl hs hk hw hm (fun l' M' => K _ l' M' hi9)
  | 47, _ =>
    rcases st_47 hv hlo (s (i + 1)) with ⟨P9, hi9, ⟨y, hx, hm⟩ | ⟨kk, y, hk, hw, hm⟩⟩
    · exact lc_47t hi hL hl hs hx hm (fun l' M' => K _ l' M' hi9)
    · exact lc_47e hi hL hl hs hk hw hm (fun l' M' => K _ l' M' hi9)
  | 48, _ =>
    rcases st_48 hv hlo (s (i + 1)) with ⟨P9, hi9, ⟨y, hx, hm⟩ | ⟨kk, y, hk, hw, hm⟩⟩
    · exact lc_48t hi hL hl hs hx hm (fun l' M' => K _ l' M' hi9)
    · exact lc_48e hi hL hl hs hk hw hm (fun l' M' => K _ l' M' hi9)
  | 49, _ =>
    rcases st_49 hv hlo (s (i + 1)) with ⟨P9, hi9, ⟨y, hx, hm⟩ | ⟨kk, y, hk, hw, hm⟩⟩
    · exact lc_49t hi hL hl hs hx hm (fun l' M' => K _ l' M' hi9)
    · exact lc_49e hi hL hl hs hk hw hm (fun l' M' => K _ l' M' hi9)
  | 50, _ =>
    rcases st_50 hv (s (i + 1)) with ⟨P9, hi9, ⟨y, hx, hm⟩ | ⟨kk, y, hk, hw, hm⟩⟩
    · exact lc_50t hi hL hl hs hx hm (fun l' M' => K _ l' M' hi9)
    · exact lc_50e hi hL hl hs hk hw hm (fun l' M' => K _ l' M' hi9)
  | 51, _ => exact lc_51 hi hL hl hs (xo_79 hI.2.1 hv.2.2.2.2.2.1.2.2.2.2) (mo_188 hI.2.1 hv.2.2.2.2.2.1.2.2.2.2) (fun l' M' => K _ l' M' hv.up)
  | k + 52, h => omega
def lPost (r : Option Value ⊕ Nat) (M' : am_M) : Prop := r = .inl (some (.int 1)) ∧ M'.2.1 ≤ 100000 ∧ M'.2.2.1 ≤ 1000000
theorem law_loop {L : Nat} {s : Nat → Int32} (hL : L ≤ 2048) : ∀ (j n : Nat), n + j = L / 4 → ∀ (l : am_L) (M : am_M) (P : am_S), LL l (4 * n) → lSt P n M → xInv n P → am_W 14 (some (L, s)) 232 28 l [] M lPost := by
  intro j
  induction j with
  | zero =>
    intro n hn l M P hl hs hv
    obtain ⟨hl0, hl1, hl2, hl3, hl4, hl5⟩ := hl
    have hcm := law_cmp hL (show 4 * n ≤ 2048 by omega)
    have hlt : L < 4 * n + 4 := by omega
    refine w_go 7 (by simp only [xi_232_28, xi_232_30, xi_232_31, xi_232_32, xi_232_33, xi_232_34, xi_232_3095, hcm, hlt, hl0, hl1, hl2, hl3, hl4, hl5, eq_self, go_0, go_s, bd_nx, q_ldi, q_ldj, q_ldd, q_lda, q_ldn, q_ldr, q_sta, q_stn, q_str, q_i1, q_i2, q_j1, q_j2, q_ij, q_d1, q_d2, q_a1, q_ia, q_via, q_set, q_new, q_pay, q_gf, q_pf, q_oki, q_okj, q_okd, q_oka, q_okn, q_ai, q_aj, q_ad, q_aa, q_len, q_wi, q_wj, q_wd, q_wa, q_args0, q_args, q_ci, q_cj, q_cd, q_cr, q_cn, q_cx, am_inc, am_dup, am_dup2, am_nul, am_put, am_aln, am_ial, am_aas, Option.bind_some, List.filter_cons, List.filter_nil, ↓reduceIte, Nat.reduceEqDiff, Nat.reduceAdd, Nat.reduceBEq, Nat.reduceLT, List.getElem?_cons_zero, List.getElem?_cons_succ, List.set_cons_zero, List.set_cons_succ, List.length_cons, List.length_nil, Bool.not_true, Bool.not_false, Bool.and_true, Bool.true_and, Bool.false_and, Bool.and_false, and_true, true_and, and_self, Nat.one_ne_zero, Nat.zero_ne_one, Bool.false_eq_true, beq_self_eq_true, reduceCtorEq, Nat.zero_add, or_self, or_false, false_or, or_true, true_or, q_ok21, q_ok20, not_true_eq_false, not_false_eq_true, q_clt, q_cge, q_ceq, q_cgt, q_cle, Option.toList_some, Option.toList_none, List.cons_append, List.nil_append, q_obg, q_obp, q_up, Nat.reduceLeDiff]; rfl) ?_
    have hc := hs.2.2.2.2
    exact w_ret (by simp only [xi_232_3096, q_rt1]) ⟨rfl, by omega, by omega⟩
  | succ j ih =>
    intro n hn l M P hl hs hv
    have hl9 := hl
    obtain ⟨hl0, hl1, hl2, hl3, hl4, hl5⟩ := hl
    have hcm := law_cmp hL (show 4 * n ≤ 2048 by omega)
    have hlt : ¬ L < 4 * n + 4 := by omega
    have i0 : ¬ Int32.ofNat (4 * n) < 0 := ix_0 (by omega)
    have i1 : (Int32.ofNat (4 * n)).toNatClampNeg = 4 * n := ix_n (by omega)
    have i2 : ¬ L ≤ 4 * n := by omega
    refine w_go 11 (by simp only [xi_232_28, xi_232_30, xi_232_31, xi_232_32, xi_232_33, xi_232_34, xi_232_37, xi_232_38, xi_232_40, xi_232_41, xi_232_43, hcm, hlt, i0, i1, i2, hl0, hl1, hl2, hl3, hl4, hl5, eq_self, go_0, go_s, bd_nx, q_ldi, q_ldj, q_ldd, q_lda, q_ldn, q_ldr, q_sta, q_stn, q_str, q_i1, q_i2, q_j1, q_j2, q_ij, q_d1, q_d2, q_a1, q_ia, q_via, q_set, q_new, q_pay, q_gf, q_pf, q_oki, q_okj, q_okd, q_oka, q_okn, q_ai, q_aj, q_ad, q_aa, q_len, q_wi, q_wj, q_wd, q_wa, q_args0, q_args, q_ci, q_cj, q_cd, q_cr, q_cn, q_cx, am_inc, am_dup, am_dup2, am_nul, am_put, am_aln, am_ial, am_aas, Option.bind_some, List.filter_cons, List.filter_nil, ↓reduceIte, Nat.reduceEqDiff, Nat.reduceAdd, Nat.reduceBEq, Nat.reduceLT, List.getElem?_cons_zero, List.getElem?_cons_succ, List.set_cons_zero, List.set_cons_succ, List.length_cons, List.length_nil, Bool.not_true, Bool.not_false, Bool.and_true, Bool.true_and, Bool.false_and, Bool.and_false, and_true, true_and, and_self, Nat.one_ne_zero, Nat.zero_ne_one, Bool.false_eq_true, beq_self_eq_true, reduceCtorEq, Nat.zero_add, or_self, or_false, false_or, or_true, true_or, q_ok21, q_ok20, not_true_eq_false, not_false_eq_true, q_clt, q_cge, q_ceq, q_cgt, q_cle, Option.toList_some, Option.toList_none, List.cons_append, List.nil_append, q_obg, q_obp, q_up, Nat.reduceLeDiff]; rfl) ?_
    have K : ∀ P' l' M', xInv (n + 1) P' → LL l' (4 * n) → lSt P' (n + 1) M' → am_W 14 (some (L, s)) 232 3089 l' [] M' lPost := by
      intro P' l' M' hv hl hs
      have hl9 := hl
      obtain ⟨hl0, hl1, hl2, hl3, hl4, hl5⟩ := hl
      have hi4 : Int32.ofNat (4 * n) + 4 = Int32.ofNat (4 * (n + 1)) := by rw [Nat.mul_add, Int32.ofNat_add]; rfl
      refine w_go 2 (by simp only [xi_232_3089, xi_232_3092, hi4, hl0, hl1, hl2, hl3, hl4, hl5, eq_self, go_0, go_s, bd_nx, q_ldi, q_ldj, q_ldd, q_lda, q_ldn, q_ldr, q_sta, q_stn, q_str, q_i1, q_i2, q_j1, q_j2, q_ij, q_d1, q_d2, q_a1, q_ia, q_via, q_set, q_new, q_pay, q_gf, q_pf, q_oki, q_okj, q_okd, q_oka, q_okn, q_ai, q_aj, q_ad, q_aa, q_len, q_wi, q_wj, q_wd, q_wa, q_args0, q_args, q_ci, q_cj, q_cd, q_cr, q_cn, q_cx, am_inc, am_dup, am_dup2, am_nul, am_put, am_aln, am_ial, am_aas, Option.bind_some, List.filter_cons, List.filter_nil, ↓reduceIte, Nat.reduceEqDiff, Nat.reduceAdd, Nat.reduceBEq, Nat.reduceLT, List.getElem?_cons_zero, List.getElem?_cons_succ, List.set_cons_zero, List.set_cons_succ, List.length_cons, List.length_nil, Bool.not_true, Bool.not_false, Bool.and_true, Bool.true_and, Bool.false_and, Bool.and_false, and_true, true_and, and_self, Nat.one_ne_zero, Nat.zero_ne_one, Bool.false_eq_true, beq_self_eq_true, reduceCtorEq, Nat.zero_add, or_self, or_false, false_or, or_true, true_or, q_ok21, q_ok20, not_true_eq_false, not_false_eq_true, q_clt, q_cge, q_ceq, q_cgt, q_cle, Option.toList_some, Option.toList_none, List.cons_append, List.nil_append, q_obg, q_obp, q_up, Nat.reduceLeDiff]; rfl) ?_
      exact ih (n + 1) (by omega) _ _ P' (hl9.nx _) hs hv
    exact law_sw (fun k hk _ => law_body (by omega) hL hl9 hs hv (by omega) K k hk) (K P l M hv.up hl9 ⟨hs.1, hs.2.1, hs.2.2.1, hs.2.2.2.1, by have := hs.2.2.2.2; omega, by have := hs.2.2.2.2; omega⟩)
theorem law_start {L : Nat} {s : Nat → Int32} (hL : L ≤ 2048) : am_W 14 (some (L, s)) 232 0 [(0, .retAddr 0)] [] (0, 0, 0, fun _ => am_junk) lPost := by
  have hM : (0 : Nat) = 0 := rfl
  refine w_go 2 (by simp only [xi_232_0, xi_232_3, hM, eq_self, q_sup, q_set1, q_new1, z20, z20b, z10, z10b, z6, z6b, z100, z100b, z120, z120b, z600, z600b, z0, z0b, q_na0, q_na1, Nat.reduceLeDiff, go_0, go_s, bd_nx, q_ldi, q_ldj, q_ldd, q_lda, q_ldn, q_ldr, q_sta, q_stn, q_str, q_lg, q_i1, q_i2, q_j1, q_j2, q_ij, q_d1, q_d2, q_a1, q_ia, q_via, q_set, q_new, q_pay, q_gf, q_pf, q_oki, q_okj, q_okd, q_oka, q_okn, q_ai, q_aj, q_ad, q_aa, q_len, q_wi, q_wj, q_wd, q_wa, q_s1, q_s2, q_args0, q_args, q_ci, q_cj, q_cd, q_cr, q_cn, q_cx, am_inc, am_dup, am_dup2, am_nul, am_put, am_aln, am_ial, am_aas, Option.bind_some, List.filter_cons, List.filter_nil, ↓reduceIte, Nat.reduceEqDiff, Nat.reduceAdd, Nat.reduceBEq, Nat.reduceLT, List.getElem?_cons_zero, List.getElem?_cons_succ, List.set_cons_zero, List.set_cons_succ, List.length_cons, List.length_nil, Bool.not_true, Bool.not_false, Bool.and_true, Bool.true_and, Bool.false_and, Bool.and_false, and_true, true_and, and_self, Nat.one_ne_zero, Nat.zero_ne_one, Bool.false_eq_true, beq_self_eq_true, reduceCtorEq, Nat.zero_add, or_self, or_false, false_or, or_true, true_or, q_ok21, q_ok20, not_true_eq_false, not_false_eq_true, q_clt, q_cge, q_ceq, q_cgt, q_cle, Option.toList_some, Option.toList_none, List.cons_append, List.nil_append, q_obg, q_obp, q_up, Nat.reduceLeDiff]; rfl) ?_
  refine w_call (by simp only [xi_232_4, q_iv0, q_is1, q_is2, q_is3, q_is4, q_io1, q_io2, q_io3, q_io4, q_io5, q_rcv, q_obr, am_wt, or_true, true_or, or_self, not_false_eq_true, hM, eq_self, q_sup, q_set1, q_new1, z20, z20b, z10, z10b, z6, z6b, z100, z100b, z120, z120b, z600, z600b, z0, z0b, q_na0, q_na1, Nat.reduceLeDiff, go_0, go_s, bd_nx, q_ldi, q_ldj, q_ldd, q_lda, q_ldn, q_ldr, q_sta, q_stn, q_str, q_lg, q_i1, q_i2, q_j1, q_j2, q_ij, q_d1, q_d2, q_a1, q_ia, q_via, q_set, q_new, q_pay, q_gf, q_pf, q_oki, q_okj, q_okd, q_oka, q_okn, q_ai, q_aj, q_ad, q_aa, q_len, q_wi, q_wj, q_wd, q_wa, q_s1, q_s2, q_args0, q_args, q_ci, q_cj, q_cd, q_cr, q_cn, q_cx, am_inc, am_dup, am_dup2, am_nul, am_put, am_aln, am_ial, am_aas, Option.bind_some, List.filter_cons, List.filter_nil, ↓reduceIte, Nat.reduceEqDiff, Nat.reduceAdd, Nat.reduceBEq, Nat.reduceLT, List.getElem?_cons_zero, List.getElem?_cons_succ, List.set_cons_zero, List.set_cons_succ, List.length_cons, List.length_nil, Bool.not_true, Bool.not_false, Bool.and_true, Bool.true_and, Bool.false_and, Bool.and_false, and_true, true_and, and_self, Nat.one_ne_zero, Nat.zero_ne_one, Bool.false_eq_true, beq_self_eq_true, reduceCtorEq, Nat.zero_add, or_self, or_false, false_or, or_true, true_or, q_ok21, q_ok20, not_true_eq_false, not_false_eq_true, q_clt, q_cge, q_ceq, q_cgt, q_cle, Option.toList_some, Option.toList_none, List.cons_append, List.nil_append, q_obg, q_obp, q_up, Nat.reduceLeDiff]; rfl) xt_232_4 (Nat.le_of_ble_eq_true rfl) (c_27 (by simp only [q_new, ↓reduceIte]; rfl) rfl _) rfl (fun v9 N1 hq => ?_) (fun E M9 hq => by cases hq.1)
  obtain ⟨hv9, x1, x2, x3, x4, x5⟩ := hq
  cases hv9
  have x4 : N1.2.1 = 23 := x4
  have x5 : N1.2.2.1 = 290 := x5
  refine w_go 3 (by simp only [xi_232_7, xi_232_8, xi_232_11, x3, eq_self, q_sup, q_set1, q_new1, z20, z20b, z10, z10b, z6, z6b, z100, z100b, z120, z120b, z600, z600b, z0, z0b, q_na0, q_na1, Nat.reduceLeDiff, go_0, go_s, bd_nx, q_ldi, q_ldj, q_ldd, q_lda, q_ldn, q_ldr, q_sta, q_stn, q_str, q_lg, q_i1, q_i2, q_j1, q_j2, q_ij, q_d1, q_d2, q_a1, q_ia, q_via, q_set, q_new, q_pay, q_gf, q_pf, q_oki, q_okj, q_okd, q_oka, q_okn, q_ai, q_aj, q_ad, q_aa, q_len, q_wi, q_wj, q_wd, q_wa, q_s1, q_s2, q_args0, q_args, q_ci, q_cj, q_cd, q_cr, q_cn, q_cx, am_inc, am_dup, am_dup2, am_nul, am_put, am_aln, am_ial, am_aas, Option.bind_some, List.filter_cons, List.filter_nil, ↓reduceIte, Nat.reduceEqDiff, Nat.reduceAdd, Nat.reduceBEq, Nat.reduceLT, List.getElem?_cons_zero, List.getElem?_cons_succ, List.set_cons_zero, List.set_cons_succ, List.length_cons, List.length_nil, Bool.not_true, Bool.not_false, Bool.and_true, Bool.true_and, Bool.false_and, Bool.and_false, and_true, true_and, and_self, Nat.one_ne_zero, Nat.zero_ne_one, Bool.false_eq_true, beq_self_eq_true, reduceCtorEq, Nat.zero_add, or_self, or_false, false_or, or_true, true_or, q_ok21, q_ok20, not_true_eq_false, not_false_eq_true, q_clt, q_cge, q_ceq, q_cgt, q_cle, Option.toList_some, Option.toList_none, List.cons_append, List.nil_append, q_obg, q_obp, q_up, Nat.reduceLeDiff]; rfl) ?_
  refine w_call (by simp only [xi_232_12, q_iv0, q_is1, q_is2, q_is3, q_is4, q_io1, q_io2, q_io3, q_io4, q_io5, q_rcv, q_obr, am_wt, or_true, true_or, or_self, not_false_eq_true, x3, x3, eq_self, q_sup, q_set1, q_new1, z20, z20b, z10, z10b, z6, z6b, z100, z100b, z120, z120b, z600, z600b, z0, z0b, q_na0, q_na1, Nat.reduceLeDiff, go_0, go_s, bd_nx, q_ldi, q_ldj, q_ldd, q_lda, q_ldn, q_ldr, q_sta, q_stn, q_str, q_lg, q_i1, q_i2, q_j1, q_j2, q_ij, q_d1, q_d2, q_a1, q_ia, q_via, q_set, q_new, q_pay, q_gf, q_pf, q_oki, q_okj, q_okd, q_oka, q_okn, q_ai, q_aj, q_ad, q_aa, q_len, q_wi, q_wj, q_wd, q_wa, q_s1, q_s2, q_args0, q_args, q_ci, q_cj, q_cd, q_cr, q_cn, q_cx, am_inc, am_dup, am_dup2, am_nul, am_put, am_aln, am_ial, am_aas, Option.bind_some, List.filter_cons, List.filter_nil, ↓reduceIte, Nat.reduceEqDiff, Nat.reduceAdd, Nat.reduceBEq, Nat.reduceLT, List.getElem?_cons_zero, List.getElem?_cons_succ, List.set_cons_zero, List.set_cons_succ, List.length_cons, List.length_nil, Bool.not_true, Bool.not_false, Bool.and_true, Bool.true_and, Bool.false_and, Bool.and_false, and_true, true_and, and_self, Nat.one_ne_zero, Nat.zero_ne_one, Bool.false_eq_true, beq_self_eq_true, reduceCtorEq, Nat.zero_add, or_self, or_false, false_or, or_true, true_or, q_ok21, q_ok20, not_true_eq_false, not_false_eq_true, q_clt, q_cge, q_ceq, q_cgt, q_cle, Option.toList_some, Option.toList_none, List.cons_append, List.nil_append, q_obg, q_obp, q_up, Nat.reduceLeDiff]; rfl) xt_232_12 (Nat.le_of_ble_eq_true rfl) (c_103 (by simp only [q_new, x3, ↓reduceIte]; rfl) (by show N1.1 + 1 = 24; rw [x3]) _) rfl (fun v9 N2 hq => ?_) (fun E M9 hq => by cases hq.1)
  obtain ⟨hv9, y1, y2, y3, y4, y5⟩ := hq
  cases hv9
  have y3 : N2.2.1 = 45 := by rw [y3]; show N1.2.1 + 1 + 21 = 45; rw [x4]
  have h4 : (am_new N1 (am_nf 8).length (.inr (8, am_nf 8))).2.2.1 = 334 := by show N1.2.2.1 + 44 = 334; rw [x5]
  rw [h4] at y4
  have y4 : N2.2.2.1 ≤ 2334 := y4
  refine w_go 9 (by simp only [xi_232_15, xi_232_16, xi_232_17, xi_232_19, xi_232_20, xi_232_21, xi_232_23, xi_232_25, xi_232_26, cp_1, cp_1b, y2, eq_self, q_sup, q_set1, q_new1, z20, z20b, z10, z10b, z6, z6b, z100, z100b, z120, z120b, z600, z600b, z0, z0b, q_na0, q_na1, Nat.reduceLeDiff, go_0, go_s, bd_nx, q_ldi, q_ldj, q_ldd, q_lda, q_ldn, q_ldr, q_sta, q_stn, q_str, q_lg, q_i1, q_i2, q_j1, q_j2, q_ij, q_d1, q_d2, q_a1, q_ia, q_via, q_set, q_new, q_pay, q_gf, q_pf, q_oki, q_okj, q_okd, q_oka, q_okn, q_ai, q_aj, q_ad, q_aa, q_len, q_wi, q_wj, q_wd, q_wa, q_s1, q_s2, q_args0, q_args, q_ci, q_cj, q_cd, q_cr, q_cn, q_cx, am_inc, am_dup, am_dup2, am_nul, am_put, am_aln, am_ial, am_aas, Option.bind_some, List.filter_cons, List.filter_nil, ↓reduceIte, Nat.reduceEqDiff, Nat.reduceAdd, Nat.reduceBEq, Nat.reduceLT, List.getElem?_cons_zero, List.getElem?_cons_succ, List.set_cons_zero, List.set_cons_succ, List.length_cons, List.length_nil, Bool.not_true, Bool.not_false, Bool.and_true, Bool.true_and, Bool.false_and, Bool.and_false, and_true, true_and, and_self, Nat.one_ne_zero, Nat.zero_ne_one, Bool.false_eq_true, beq_self_eq_true, reduceCtorEq, Nat.zero_add, or_self, or_false, false_or, or_true, true_or, q_ok21, q_ok20, not_true_eq_false, not_false_eq_true, q_clt, q_cge, q_ceq, q_cgt, q_cle, Option.toList_some, Option.toList_none, List.cons_append, List.nil_append, q_obg, q_obp, q_up, Nat.reduceLeDiff]; rfl) ?_
  refine law_loop hL (L / 4) 0 (Nat.zero_add _) _ _ xP0 ⟨rfl, rfl, rfl, rfl, rfl, rfl⟩ ⟨⟨xG0, ?_⟩, ⟨((fun i => (am_nf 8).getD i .null, fun _ => 0, fun _ => 0, fun _ => 0) : am_T), ?_⟩, ⟨fun _ => 0, ?_⟩, ⟨fun _ => 0, ?_⟩, ?_, ?_⟩ xInv_0
  · have hlow : ∀ a, a ≤ 22 → am_f N2 a = am_f N1 a := fun a ha => by rw [y5 a (by omega), q_new, if_neg (by omega)]
    refine ⟨?_, fun a ha h9 => ?_, fun k hk => absurd hk (Nat.not_lt_zero k), ⟨rfl, fun p hp => absurd hp (Nat.not_lt_zero p), rfl, fun p hp => absurd hp (Nat.not_lt_zero p)⟩, ⟨Or.inl rfl, fun _ => 0, ?_, fun k hk => absurd hk (Nat.not_lt_zero k)⟩, fun p hp => absurd hp (Nat.not_lt_zero p), fun o ho => absurd ho (Nat.not_lt_zero o), fun o _ ho => absurd ho (Nat.not_lt_zero o)⟩
    · show 47 ≤ N2.1 + 1 + 1; omega
    · rw [q_new, if_neg (by rw [q_new1, y2]; omega), q_new, if_neg (by omega), hlow a ha]; exact x1 a ha h9
    · show am_f _ 9 = _
      rw [q_new, if_neg (by rw [q_new1, y2]; omega), q_new, if_neg (by omega), hlow 9 (by decide)]; exact x2
  · refine ⟨?_, fun a h1 h2 => ?_⟩
    · show 47 ≤ N2.1 + 1 + 1; omega
    · rw [q_new, if_neg (by rw [q_new1, y2]; omega), q_new, if_neg (by omega)]; exact y1 a h1 h2
  · rw [q_new, if_neg (by rw [q_new1, y2]; omega), q_new, if_pos y2.symm]
  · rw [q_new, if_pos (by rw [q_new1, y2])]; rfl
  · show N2.2.1 + 1 + 1 ≤ _; omega
  · show N2.2.2.1 + 1 + 1 ≤ _; omega
theorem law_runs {L : Nat} {s : Nat → Int32} (hL : L ≤ 2048) : ∃ (n : Nat) (M' : am_M), am_run n 14 (some (L, s)) 232 0 [(0, .retAddr 0)] [] (0, 0, 0, fun _ => am_junk) = some (.inl (some (.int 1)), M') ∧ M'.2.1 ≤ 100000 ∧ M'.2.2.1 ≤ 1000000 := by
  obtain ⟨r, M', ⟨n, h⟩, rfl, h1, h2⟩ := law_start (s := s) hL
  exact ⟨n, M', h, h1, h2⟩
