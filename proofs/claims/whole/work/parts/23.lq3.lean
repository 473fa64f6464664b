theorem town_n {S : QS} (h : isT (sg S) = false) : o_town S = (-103, S) := if_neg (fun z => absurd (z.symm.trans h) (by decide))
theorem town_y {S : QS} (h : isT (sg S) = true) : o_town S = (nI ((sg S).length / 3), ([], tP (sg S), tL (sg S), ((fun i => [i]), [], []), none, sT S + 1, sA S)) := if_pos h
theorem RFair.outz {G : XG} {w w1 : Wd} {f0 lo hi Z : Nat} {ds : List (Nat × Nat)} {hd : List (Nat × Bool)} {F : FS} (hF : RFair G w f0 ds hd F) (ho : OutZ w w1 lo hi Z) (hd0 : f0 + 15 ≤ lo ∨ hi ≤ f0) (hz : f0 + 15 ≤ Z) : RFair G w1 f0 ds hd F := ⟨(ho _ (by omega) (by omega)).trans hF.1, hF.2.1.outz ho (by omega) (by omega), hF.2.2⟩
theorem RLQ.twn {G : XG} {w w1 : Wd} {x0 Z : Nat} {S : QS} {P : PK} {lim : Nat} (hR : RLQ G w x0 Z S) (ho : OutZ w w1 x0 (x0 + 19) Z) (hc : w1 x0 = some (eO 11 [.ref (x0 + 1), .ref (x0 + 3), .ref (x0 + 5), .ref (x0 + 19), .ref (x0 + 33), .ref (x0 + 37), .int (nI 0), .int (nI (sT S + 1)), .int (nI (sA S))])) (hP : RPage G w1 (x0 + 1) []) (hT : RTown G w1 (x0 + 3) Z P lim) (hB : RBooks G w1 (x0 + 5) (fun i => [i]) [] []) (hz : x0 + 52 ≤ Z) : RLQ G w1 x0 Z ([], P, lim, ((fun i => [i]), [], []), none, sT S + 1, sA S) := by
  obtain ⟨a0, a1, a2, a3, ⟨Bi, a4, a4e⟩, ⟨h, T, fw, fr, a5⟩, ⟨ds, hd, F, a6⟩⟩ := hR
  exact ⟨hc, hP, hT, hB, ⟨Bi, a4.outz ho (by omega) (by omega), fun _ h => nomatch h⟩, ⟨h, T, fw, fr, a5.outz ho (by omega) (by omega)⟩, ⟨ds, hd, F, a6.outz ho (by omega) (by omega)⟩⟩
theorem fairs_out {S : QS} {x y z : Int32} (h : x < nI 1 ∨ nI 60 < x ∨ y < 0 ∨ z < 0 ∨ nI 2 < z) : v_fairs S x y z = -102 := by
  unfold v_fairs
  rcases inR_or x 61 with ⟨t, ht, ht31, rfl⟩ | hx1
  · rw [onR_in ht ht31]
    by_cases h0 : t = 0
    · exact if_pos h0
    · refine (if_neg h0).trans ?_
      rcases inR_or y (2 ^ 31) with ⟨d, hd, hd31, rfl⟩ | hy1
      · rw [onR_in hd hd31]
        rcases inR_or z 3 with ⟨k, hk, hk31, rfl⟩ | hz1
        · exfalso
          simp only [Int32.lt_iff_toInt_lt, nI_toInt ht31, nI_toInt hd31, nI_toInt hk31, nI_toInt (show 1 < 2 ^ 31 by omega), nI_toInt (show 60 < 2 ^ 31 by omega), nI_toInt (show 2 < 2 ^ 31 by omega), Int32.toInt_zero] at h
          omega
        · exact onR_out hz1 _ _
      · exact onR_out hy1 _ _
  · exact onR_out hx1 _ _
theorem fairs_cs {x y z : Int32} (h : ¬ (x < nI 1 ∨ nI 60 < x ∨ y < 0 ∨ z < 0 ∨ nI 2 < z)) : ∃ t d k, 1 ≤ t ∧ t ≤ 60 ∧ d < 2 ^ 31 ∧ k < 3 ∧ x = nI t ∧ y = nI d ∧ z = nI k := by
  have a1 : ¬ x < nI 1 := fun q => h (Or.inl q)
  have a2 : ¬ nI 60 < x := fun q => h (Or.inr (Or.inl q))
  have a3 : ¬ y < 0 := fun q => h (Or.inr (Or.inr (Or.inl q)))
  have a4 : ¬ z < 0 := fun q => h (Or.inr (Or.inr (Or.inr (Or.inl q))))
  have a5 : ¬ nI 2 < z := fun q => h (Or.inr (Or.inr (Or.inr (Or.inr q))))
  obtain ⟨d, hd, rfl⟩ := nI_of a3
  obtain ⟨k, hk, rfl⟩ := nI_of a4
  have a6 : ¬ x < 0 := by
    rw [Int32.lt_iff_toInt_lt, nI_toInt (by omega)] at a1
    rw [Int32.lt_iff_toInt_lt, Int32.toInt_zero]
    omega
  obtain ⟨t, ht, rfl⟩ := nI_of a6
  rw [Int32.lt_iff_toInt_lt, nI_toInt (by omega), nI_toInt (by omega)] at a1 a2 a5
  exact ⟨t, d, k, by omega, by omega, hd, by omega, rfl, rfl, rfl⟩
theorem fairs_in {S : QS} {t d k : Nat} (h1 : 1 ≤ t) (h2 : t ≤ 60) (h3 : d < 2 ^ 31) (h4 : k < 3) : v_fairs S (nI t) (nI d) (nI k) = if sn S = 0 then -103 else fairV S t d k := by
  unfold v_fairs
  rw [onR_in (by omega) (by omega)]
  refine (if_neg (by omega)).trans ?_
  rw [onR_in h3 h3, onR_in h4 (by omega)]
def dg2v (S : QS) : Int64 := if sn S = 0 then digDs S (digPs S 967 (sn S)) (sd S).length else mx (mx (digDs S (digPs S 967 (sn S)) (sd S).length) (findV S 0)) (findV S 1)
theorem dg2 (S : QS) : (sn S = 0 → dg2v S = digDs S (digPs S 967 (sn S)) (sd S).length) ∧ (¬ sn S = 0 → dg2v S = mx (mx (digDs S (digPs S 967 (sn S)) (sd S).length) (findV S 0)) (findV S 1)) := ⟨fun h => if_pos h, fun h => if_neg h⟩
set_option maxHeartbeats 4000000 in
set_option maxRecDepth 100000 in
theorem kX11_town (l : Launch) (N0 : Nat) (G : XG) (w : Wd) (x0 Z : Nat) (S : QS) (hR : RLQ G w x0 Z S) (hW : WF S) (hZx : x0 + 52 ≤ Z) (eZ : va_E) (hZ : w (Z - 1) = some eZ) : XM l yX11_town wsX11_town (rmA 8 5 5) N0 G [.ref x0] w vI (fun r w1 => (o_town S).1 = r ∧ RLQ G w1 x0 Z (o_town S).2 ∧ OutZ w w1 x0 (x0 + 52) Z) 5 5 := by
  refine XM.of (cc := cX11_town) (maxL := 1) (ret := (some .int)) (by decide) rfl (Nat.le_of_ble_eq_true rfl) ?_
  intro p e s m below meth c hx hb hr hlk hin0 hml hown hts hN hw hG hS ls hl
  have hown : s.vm.findClass RX11 = some m.cls := hown
  have hiX11 : ∀ x ∈ u_ws RX11 TX11 9, x ∈ wsX11_town := by decide +kernel
  have hlnk0 := hts (.fieldLink RX11 10 "LentQuill" "page" "LLentQuill$Page;") (by decide +kernel)
  have hlnk1 := hts (.fieldLink RX11 19 "LentQuill" "town" "LLentQuill$Town;") (by decide +kernel)
  have hlnk2 := hts (.fieldLink RX11 26 "LentQuill" "books" "LLentQuill$Books;") (by decide +kernel)
  have hlnk3 := hts (.fieldLink RX11 70 "LentQuill" "imageKept" "Z") (by decide +kernel)
  have hlnk4 := hts (.fieldLink RX11 74 "LentQuill" "townsRead" "I") (by decide +kernel)
  have hl : lh ls 1 [some (.ref x0)] := hl
  obtain ⟨hx0, hPg, hTn, hBk, ⟨Bi, hBi, hBie⟩, ⟨hs, Ts, fw, fr, hSr⟩, ⟨dsF, hdF, F, hFr⟩⟩ := id hR
  obtain ⟨h5, hlim⟩ := hTn.five
  have hsn : sn S = (sP S).length := rfl
  have hpgc := hPg.cell
  have htnc := hTn.cell
  have hbkc := hBk.cell
  have hbic := hBi.cell
  have hsrc := hSr.cell
  have hfrc := hFr.1
  obtain ⟨hd6, hh6, hdw⟩ := hBk.six
  have hsd : (sd S).length = (sB S).2.1.length := rfl
  have hsh : (sh S).length = (sB S).2.2.length := rfl
  refine xaload_n hx hb dX11_town_0 hl rfl ?_
  refine xget (C := RX11) (T := TX11) (N := 9) hx hb (ci := 11) hts hiX11 hown hG hw (by repeat first | assumption | exact wu_eq _ _ _ | refine wu_ne (by omega) ?_) rfl 0 (by decide) hlnk0 (fun _ h9 => h9) rfl dX11_town_1 ?_
  refine xVi ⟨hx, hb, hml, hown, hts⟩ (kX5_isTown l N0 G _ _ _ hPg) (cwV 0 hts gX11_town_X5_isTown rfl rfl rfl (by decide +kernel) ⟨Nat.le_of_ble_eq_true rfl, Nat.le_of_ble_eq_true rfl⟩) hG hN hw hS (ci := 5) (by repeat first | assumption | exact wu_eq _ _ _ | refine wu_ne (by omega) ?_) rfl rfl hl.1 rfl (Nat.le_of_ble_eq_true rfl) dX11_town_4 ⟨by simp only [rmA]; omega, by simp only [rmA]; omega⟩ (fun r4 w4 H locs hp4 hw hS => ?_)
  obtain ⟨rfl, rfl⟩ := hp4
  first | refine xifb_ne (tgt := 13) hx hb dX11_town_7 (by decide) (fun c7 => ?_) (fun c7 => ?_) | refine xif_ne (tgt := 13) hx hb dX11_town_7 (by decide) (by omega) (fun c7 => ?_) (fun c7 => ?_) | refine lv_if_ne (tgt := 13) hx hb dX11_town_7 (by decide) (fun c7 => ?_) (fun c7 => ?_)
  · skip
    refine xaload_n hx hb dX11_town_13 hl rfl ?_
    refine xget (C := RX11) (T := TX11) (N := 9) hx hb (ci := 11) hts hiX11 hown hG hw (by repeat first | assumption | exact wu_eq _ _ _ | refine wu_ne (by omega) ?_) rfl 1 (by decide) hlnk1 (fun _ h9 => h9) rfl dX11_town_14 ?_
    refine xaload_n hx hb dX11_town_17 hl rfl ?_
    refine xget (C := RX11) (T := TX11) (N := 9) hx hb (ci := 11) hts hiX11 hown hG hw (by repeat first | assumption | exact wu_eq _ _ _ | refine wu_ne (by omega) ?_) rfl 0 (by decide) hlnk0 (fun _ h9 => h9) rfl dX11_town_18 ?_
    refine xVv ⟨hx, hb, hml, hown, hts⟩ (kX10_readFrom l N0 G _ _ Z _ _ hTn _ _ hPg c7 eZ hZ (by omega)) (cwV 1 hts gX11_town_X10_readFrom rfl rfl rfl (by decide +kernel) ⟨Nat.le_of_ble_eq_true rfl, Nat.le_of_ble_eq_true rfl⟩) hG hN hw hS (ci := 10) (by repeat first | assumption | exact wu_eq _ _ _ | refine wu_ne (by omega) ?_) rfl rfl hl.1 rfl (Nat.le_of_ble_eq_true rfl) dX11_town_21 ⟨by simp only [rmA]; omega, by simp only [rmA]; omega⟩ (fun r21 w21 H locs hp21 hw hS => ?_)
    obtain ⟨hT1, hO1⟩ := hp21
    have hx1 := (hO1 x0 (by omega) (by omega)).trans hx0
    have hP1 := hPg.outz hO1 (by omega) (by omega)
    have hB1 := hBk.outz hO1 (by omega) (by omega)
    have hpgc1 := hP1.cell
    refine xaload_n hx hb dX11_town_24 hl rfl ?_
    refine xget (C := RX11) (T := TX11) (N := 9) hx hb (ci := 11) hts hiX11 hown hG hw (by repeat first | assumption | exact wu_eq _ _ _ | refine wu_ne (by omega) ?_) rfl 0 (by decide) hlnk0 (fun _ h9 => h9) rfl dX11_town_25 ?_
    refine xVv ⟨hx, hb, hml, hown, hts⟩ (kX5_clear l N0 G _ _ _ hP1) (cwV 0 hts gX11_town_X5_clear rfl rfl rfl (by decide +kernel) ⟨Nat.le_of_ble_eq_true rfl, Nat.le_of_ble_eq_true rfl⟩) hG hN hw hS (ci := 5) (by repeat first | assumption | exact wu_eq _ _ _ | refine wu_ne (by omega) ?_) rfl rfl hl.1 rfl (Nat.le_of_ble_eq_true rfl) dX11_town_28 ⟨by simp only [rmA]; omega, by simp only [rmA]; omega⟩ (fun r28 w28 H locs hp28 hw hS => ?_)
    obtain ⟨hP2, hO2⟩ := hp28
    have hx2 := hO2.at (by omega) hx1
    have hT2 := hT1.out hO2 (by omega) (by omega)
    have hB2 := hB1.out hO2 (by omega)
    have hbkc2 := hB2.cell
    refine xaload_n hx hb dX11_town_31 hl rfl ?_
    refine xget (C := RX11) (T := TX11) (N := 9) hx hb (ci := 11) hts hiX11 hown hG hw (by repeat first | assumption | exact wu_eq _ _ _ | refine wu_ne (by omega) ?_) rfl 2 (by decide) hlnk2 (fun _ h9 => h9) rfl dX11_town_32 ?_
    refine xVv ⟨hx, hb, hml, hown, hts⟩ (kX2_clear l N0 G _ _ _ _ _ hB2) (cwV 0 hts gX11_town_X2_clear rfl rfl rfl (by decide +kernel) ⟨Nat.le_of_ble_eq_true rfl, Nat.le_of_ble_eq_true rfl⟩) hG hN hw hS (ci := 2) (by repeat first | assumption | exact wu_eq _ _ _ | refine wu_ne (by omega) ?_) rfl rfl hl.1 rfl (Nat.le_of_ble_eq_true rfl) dX11_town_35 ⟨by simp only [rmA]; omega, by simp only [rmA]; omega⟩ (fun r35 w35 H locs hp35 hw hS => ?_)
    obtain ⟨hB3, hO3⟩ := hp35
    have hx3 := hO3.at (by omega) hx2
    have hT3 := hT2.out hO3 (by omega) (by omega)
    have hP3 := hP2.out hO3 (by omega)
    refine xaload_n hx hb dX11_town_38 hl rfl ?_
    refine lv_iconst (v := nI 0) hx hb dX11_town_39 (by decide) ?_
    refine xput (C := RX11) (T := TX11) (N := 9) hx hb (ci := 11) (ty := .boolean) hts hiX11 tyX11 tyX11_ok nmX11 hown hG hw hS (by repeat first | assumption | exact wu_eq _ _ _ | refine wu_ne (by omega) ?_) rfl 6 (by decide) hlnk3 (fun _ h9 => h9) rfl (by decide +kernel) rfl rfl (Nat.le_of_ble_eq_true rfl) dX11_town_40 (fun H locs hzz hw hS => ?_)
    refine xaload_n hx hb dX11_town_43 hl rfl ?_
    refine lv_dup hx hb dX11_town_44 rfl ?_
    refine xget (C := RX11) (T := TX11) (N := 9) hx hb (ci := 11) hts hiX11 hown hG hw (by repeat first | assumption | exact wu_eq _ _ _ | refine wu_ne (by omega) ?_) rfl 7 (by decide) hlnk4 (fun _ h9 => h9) rfl dX11_town_45 ?_
    refine lv_iconst (v := nI 1) hx hb dX11_town_48 (by decide) ?_
    first | refine xadd hx hb dX11_town_49 ?_ | refine lv_iadd hx hb dX11_town_49 ?_
    refine xput (C := RX11) (T := TX11) (N := 9) hx hb (ci := 11) (ty := .int) hts hiX11 tyX11 tyX11_ok nmX11 hown hG hw hS (by repeat first | assumption | exact wu_eq _ _ _ | refine wu_ne (by omega) ?_) rfl 7 (by decide) hlnk4 (fun _ h9 => h9) rfl (by decide +kernel) rfl rfl (Nat.le_of_ble_eq_true rfl) dX11_town_50 (fun H locs hzz hw hS => ?_)
    refine xaload_n hx hb dX11_town_53 hl rfl ?_
    refine xget (C := RX11) (T := TX11) (N := 9) hx hb (ci := 11) hts hiX11 hown hG hw (by repeat first | assumption | exact wu_eq _ _ _ | refine wu_ne (by omega) ?_) rfl 1 (by decide) hlnk1 (fun _ h9 => h9) rfl dX11_town_54 ?_
    have hO4 : Out w35 _ x0 (x0 + 1) := (Out.rf.wu (w1 := w35) (e := eO 11 [.ref (x0 + 1), .ref (x0 + 3), .ref (x0 + 5), .ref (x0 + 19), .ref (x0 + 33), .ref (x0 + 37), .int (nI 0), .int (nI (sT S)), .int (nI (sA S))]) (Nat.le_refl _) (by omega)).wu (e := eO 11 [.ref (x0 + 1), .ref (x0 + 3), .ref (x0 + 5), .ref (x0 + 19), .ref (x0 + 33), .ref (x0 + 37), .int (nI 0), .int (nI (sT S + 1)), .int (nI (sA S))]) (Nat.le_refl _) (by omega)
    have hT4 := hT3.out hO4 (by omega) (by omega)
    have htc4 := hT4.cell
    refine xVi ⟨hx, hb, hml, hown, hts⟩ (kX10_size l N0 G _ _ Z _ _ hT4) (cwV 0 hts gX11_town_X10_size rfl rfl rfl (by decide +kernel) ⟨Nat.le_of_ble_eq_true rfl, Nat.le_of_ble_eq_true rfl⟩) hG hN hw hS (ci := 10) htc4 rfl rfl hl.1 rfl (Nat.le_of_ble_eq_true rfl) dX11_town_57 ⟨by simp only [rmA]; omega, by simp only [rmA]; omega⟩ (fun r57 w57 H locs hp57 hw hS => ?_)
    obtain ⟨rfl, rfl⟩ := hp57
    exact xiret hx hb hr hlk hw hS dX11_town_60 ⟨by rw [town_y c7]; exact congrArg nI (tP_len _).symm, by rw [town_y c7]; exact hR.twn (((hO1.tr (hO2.z Z) (lo := x0) (hi := x0 + 19) (by omega) (by omega) (by omega) (by omega)).tr (hO3.z Z) (lo := x0) (hi := x0 + 19) (by omega) (by omega) (by omega) (by omega)).tr (hO4.z Z) (by omega) (by omega) (by omega) (by omega)) (wu_eq _ _ _) (hP3.out hO4 (by omega)) hT4 (hB3.out hO4 (by omega)) hZx, ((hO1.tr (hO2.z Z) (lo := x0) (hi := x0 + 19) (by omega) (by omega) (by omega) (by omega)).tr (hO3.z Z) (lo := x0) (hi := x0 + 19) (by omega) (by omega) (by omega) (by omega)).tr (hO4.z Z) (by omega) (by omega) (by omega) (by omega)⟩
  · skip
    refine W.widen (k := 5) (n := 5) (by omega) (by omega) ?_
    refine lv_bipush (v := -103) hx hb dX11_town_10 (by decide) ?_
    exact xiret hx hb hr hlk hw hS dX11_town_12 ⟨by rw [town_n c7], by rw [town_n c7]; exact hR, Out.rf.z Z⟩
set_option maxHeartbeats 4000000 in
set_option maxRecDepth 100000 in
theorem kX11_fairs_in (l : Launch) (N0 : Nat) (G : XG) (w : Wd) (x0 Z : Nat) (S : QS) (hR : RLQ G w x0 Z S) (hW : WF S) (hZx : x0 + 52 ≤ Z) (t d k : Nat) (ht1 : 1 ≤ t) (ht60 : t ≤ 60) (hd31 : d < 2 ^ 31) (hk3 : k < 3) : XM l yX11_fairs wsX11_fairs (rmD 7) N0 G [.ref x0, .int (nI t), .int (nI d), .int (nI k)] w vI (fun r w1 => (if sn S = 0 then -103 else fairV S t d k) = r ∧ RLQ G w1 x0 Z S ∧ Out w w1 x0 (x0 + 52)) 0 0 := by
  refine XM.of (cc := cX11_fairs) (maxL := 5) (ret := (some .int)) (by decide) rfl (Nat.le_of_ble_eq_true rfl) ?_
  intro p e s m below meth c hx hb hr hlk hin0 hml hown hts hN hw hG hS ls hl
  have hown : s.vm.findClass RX11 = some m.cls := hown
  have hiX11 : ∀ x ∈ u_ws RX11 TX11 9, x ∈ wsX11_fairs := by decide +kernel
  have hlnk0 := hts (.fieldLink RX11 19 "LentQuill" "town" "LLentQuill$Town;") (by decide +kernel)
  have hlnk1 := hts (.fieldLink RX11 43 "LentQuill" "fair" "LLentQuill$Fair;") (by decide +kernel)
  have hlnk2 := hts (.fieldLink RX11 26 "LentQuill" "books" "LLentQuill$Books;") (by decide +kernel)
  have hl : lh ls 5 [some (.ref x0), some (.int (nI t)), some (.int (nI d)), some (.int (nI k)), none] := hl
  obtain ⟨hx0, hPg, hTn, hBk, ⟨Bi, hBi, hBie⟩, ⟨hs, Ts, fw, fr, hSr⟩, ⟨dsF, hdF, F, hFr⟩⟩ := id hR
  obtain ⟨h5, hlim⟩ := hTn.five
  have hsn : sn S = (sP S).length := rfl
  have hpgc := hPg.cell
  have htnc := hTn.cell
  have hbkc := hBk.cell
  have hbic := hBi.cell
  have hsrc := hSr.cell
  have hfrc := hFr.1
  obtain ⟨hd6, hh6, hdw⟩ := hBk.six
  have hsd : (sd S).length = (sB S).2.1.length := rfl
  have hsh : (sh S).length = (sB S).2.2.length := rfl
  refine xiload_n hx hb dX11_fairs_0 hl rfl ?_
  refine lv_iconst (v := nI 1) hx hb dX11_fairs_1 (by decide) ?_
  first | refine xcmp_lt (tgt := 24) hx hb dX11_fairs_2 (by decide) (by omega) (by omega) (fun c2 => ?_) (fun c2 => ?_) | refine lv_icmp_lt (tgt := 24) hx hb dX11_fairs_2 (by decide) (fun c2 => ?_) (fun c2 => ?_)
  · skip
    exfalso
    omega
  · skip
    refine xiload_n hx hb dX11_fairs_5 hl rfl ?_
    refine lv_bipush (v := nI 60) hx hb dX11_fairs_6 (by decide) ?_
    first | refine xcmp_gt (tgt := 24) hx hb dX11_fairs_8 (by decide) (by omega) (by omega) (fun c8 => ?_) (fun c8 => ?_) | refine lv_icmp_gt (tgt := 24) hx hb dX11_fairs_8 (by decide) (fun c8 => ?_) (fun c8 => ?_)
    · skip
      exfalso
      omega
    · skip
      refine xiload_n hx hb dX11_fairs_11 hl rfl ?_
      refine xif_lt (tgt := 24) hx hb dX11_fairs_12 (by decide) (by omega) ?_
      refine xiload_n hx hb dX11_fairs_15 hl rfl ?_
      refine xif_lt (tgt := 24) hx hb dX11_fairs_16 (by decide) (by omega) ?_
      refine xiload_n hx hb dX11_fairs_19 hl rfl ?_
      refine lv_iconst (v := nI 2) hx hb dX11_fairs_20 (by decide) ?_
      first | refine xcmp_le (tgt := 27) hx hb dX11_fairs_21 (by decide) (by omega) (by omega) (fun c21 => ?_) (fun c21 => ?_) | refine lv_icmp_le (tgt := 27) hx hb dX11_fairs_21 (by decide) (fun c21 => ?_) (fun c21 => ?_)
      · skip
        refine xaload_n hx hb dX11_fairs_27 hl rfl ?_
        refine xget (C := RX11) (T := TX11) (N := 9) hx hb (ci := 11) hts hiX11 hown hG hw (by repeat first | assumption | exact wu_eq _ _ _ | refine wu_ne (by omega) ?_) rfl 1 (by decide) hlnk0 (fun _ h9 => h9) rfl dX11_fairs_28 ?_
        refine xVi ⟨hx, hb, hml, hown, hts⟩ (kX10_isEmpty l N0 G _ _ Z _ _ hTn) (cwV 0 hts gX11_fairs_X10_isEmpty rfl rfl rfl (by decide +kernel) ⟨Nat.le_of_ble_eq_true rfl, Nat.le_of_ble_eq_true rfl⟩) hG hN hw hS (ci := 10) (by repeat first | assumption | exact wu_eq _ _ _ | refine wu_ne (by omega) ?_) rfl rfl hl.1 rfl (Nat.le_of_ble_eq_true rfl) dX11_fairs_31 ⟨Nat.le_of_ble_eq_true rfl, Nat.le_of_ble_eq_true rfl⟩ (fun r31 w31 H locs hp31 hw hS => ?_)
        obtain ⟨rfl, rfl⟩ := hp31
        first | refine xifb_eq (tgt := 40) hx hb dX11_fairs_34 (by decide) (fun c34 => ?_) (fun c34 => ?_) | refine xif_eq (tgt := 40) hx hb dX11_fairs_34 (by decide) (by omega) (fun c34 => ?_) (fun c34 => ?_) | refine lv_if_eq (tgt := 40) hx hb dX11_fairs_34 (by decide) (fun c34 => ?_) (fun c34 => ?_)
        · skip
          have d34 : ¬ sn S = 0 := of_decide_eq_false c34
          refine xaload_n hx hb dX11_fairs_40 hl rfl ?_
          refine xget (C := RX11) (T := TX11) (N := 9) hx hb (ci := 11) hts hiX11 hown hG hw (by repeat first | assumption | exact wu_eq _ _ _ | refine wu_ne (by omega) ?_) rfl 5 (by decide) hlnk1 (fun _ h9 => h9) rfl dX11_fairs_41 ?_
          refine xaload_n hx hb dX11_fairs_44 hl rfl ?_
          refine xget (C := RX11) (T := TX11) (N := 9) hx hb (ci := 11) hts hiX11 hown hG hw (by repeat first | assumption | exact wu_eq _ _ _ | refine wu_ne (by omega) ?_) rfl 2 (by decide) hlnk2 (fun _ h9 => h9) rfl dX11_fairs_45 ?_
          refine xiload_n hx hb dX11_fairs_48 hl rfl ?_
          refine xVv ⟨hx, hb, hml, hown, hts⟩ (kX4_open l N0 G _ _ _ _ _ hFr _ _ _ _ hBk (by omega) d (by omega)) (cwV 2 hts gX11_fairs_X4_open rfl rfl rfl (by decide +kernel) ⟨Nat.le_of_ble_eq_true rfl, Nat.le_of_ble_eq_true rfl⟩) hG hN hw hS (ci := 4) (by repeat first | assumption | exact wu_eq _ _ _ | refine wu_ne (by omega) ?_) rfl rfl hl.1 rfl (Nat.le_of_ble_eq_true rfl) dX11_fairs_49 ⟨Nat.le_of_ble_eq_true rfl, Nat.le_of_ble_eq_true rfl⟩ (fun r49 w49 H locs hp49 hw hS => ?_)
          obtain ⟨hF0, hO0⟩ := hp49
          refine lv_iconst (v := nI 0) hx hb dX11_fairs_52 (by decide) ?_
          refine xistore hx hb dX11_fairs_53 hl (by decide) rfl (fun ls hl => ?_)
          have loop55 : ∀ (nf : Nat) (i : Nat) (w1 : Wd) (H : Heap) (locs : List Loc) (ls : Array Slot), t - i < nf → (i ≤ t) → (RFair G w1 (x0 + 37) (sB S).2.1 (sB S).2.2 (fgo (sP S) (sL S) (d, (sB S).1, 0, 0) i)) → (Out w w1 (x0 + 37) (x0 + 37 + 15)) → PW N0 G w1 H → va_S (fun q => N0 ≤ q) s.heap H locs → lh ls 5 [some (.ref x0), some (.int (nI t)), some (.int (nI d)), some (.int (nI k)), some (.int (nI i))] → W p l e (rmD 7) s m ([.ref x0, .int (nI t), .int (nI d), .int (nI k)] : List Value).toArray below meth c H locs 0 0 (MQ below (XQ N0 G vI (fun r w1 => (if sn S = 0 then -103 else fairV S t d k) = r ∧ RLQ G w1 x0 Z S ∧ Out w w1 x0 (x0 + 52))) ([.ref x0, .int (nI t), .int (nI d), .int (nI k)] : List Value).toArray s 0 0 (fun q => N0 ≤ q)) (F0 m 55 ls []) := by
            intro nf
            induction nf with
            | zero => intros; omega
            | succ nf ih55 =>
              intro i w1 H locs ls hnf hi hF1 hO1 hw hS hl
              have hT1 := hTn.out hO1 (by omega) (by omega)
              have htc1 := hT1.cell
              have hfc1 := hF1.1
              have hx1 := hO1.at (by omega) hx0
              refine xiload hx hb dX11_fairs_55 hl rfl ?_
              refine xiload_n hx hb dX11_fairs_57 hl rfl ?_
              first | refine xcmp_ge (tgt := 78) hx hb dX11_fairs_58 (by decide) (by omega) (by omega) (fun c58 => ?_) (fun c58 => ?_) | refine lv_icmp_ge (tgt := 78) hx hb dX11_fairs_58 (by decide) (fun c58 => ?_) (fun c58 => ?_)
              · skip
                have hti : t = i := by omega
                subst hti
                refine xiload_n hx hb dX11_fairs_78 hl rfl ?_
                rcases (show k = 0 ∨ k = 1 ∨ k = 2 by omega) with rfl | rfl | rfl
                · skip
                  refine lv_lookup (off := 25) (tgt := 104) hx hb dX11_fairs_79 (by decide) (by decide) (by decide) ?_
                  refine xaload_n hx hb dX11_fairs_104 hl rfl ?_
                  refine xget (C := RX11) (T := TX11) (N := 9) hx hb (ci := 11) hts hiX11 hown hG hw (by repeat first | assumption | exact wu_eq _ _ _ | refine wu_ne (by omega) ?_) rfl 5 (by decide) hlnk1 (fun _ h9 => h9) rfl dX11_fairs_105 ?_
                  refine xVi ⟨hx, hb, hml, hown, hts⟩ (kX4_unsigned l N0 G _ _ _ _ _ hF1) (cwV 0 hts gX11_fairs_X4_unsigned rfl rfl rfl (by decide +kernel) ⟨Nat.le_of_ble_eq_true rfl, Nat.le_of_ble_eq_true rfl⟩) hG hN hw hS (ci := 4) (by repeat first | assumption | exact wu_eq _ _ _ | refine wu_ne (by omega) ?_) rfl rfl hl.1 rfl (Nat.le_of_ble_eq_true rfl) dX11_fairs_108 ⟨Nat.le_of_ble_eq_true rfl, Nat.le_of_ble_eq_true rfl⟩ (fun r108 w108 H locs hp108 hw hS => ?_)
                  obtain ⟨rfl, rfl⟩ := hp108
                  exact xiret hx hb hr hlk hw hS dX11_fairs_111 ⟨if_neg d34, hR.fa hO1 hF1 hZx, hO1.mono (by omega) (by omega)⟩
                · skip
                  refine lv_lookup (off := 33) (tgt := 112) hx hb dX11_fairs_79 (by decide) (by decide) (by decide) ?_
                  refine xaload_n hx hb dX11_fairs_112 hl rfl ?_
                  refine xget (C := RX11) (T := TX11) (N := 9) hx hb (ci := 11) hts hiX11 hown hG hw (by repeat first | assumption | exact wu_eq _ _ _ | refine wu_ne (by omega) ?_) rfl 5 (by decide) hlnk1 (fun _ h9 => h9) rfl dX11_fairs_113 ?_
                  refine xVi ⟨hx, hb, hml, hown, hts⟩ (kX4_partsOwed l N0 G _ _ _ _ _ hF1) (cwV 0 hts gX11_fairs_X4_partsOwed rfl rfl rfl (by decide +kernel) ⟨Nat.le_of_ble_eq_true rfl, Nat.le_of_ble_eq_true rfl⟩) hG hN hw hS (ci := 4) (by repeat first | assumption | exact wu_eq _ _ _ | refine wu_ne (by omega) ?_) rfl rfl hl.1 rfl (Nat.le_of_ble_eq_true rfl) dX11_fairs_116 ⟨Nat.le_of_ble_eq_true rfl, Nat.le_of_ble_eq_true rfl⟩ (fun r116 w116 H locs hp116 hw hS => ?_)
                  obtain ⟨rfl, rfl⟩ := hp116
                  exact xiret hx hb hr hlk hw hS dX11_fairs_119 ⟨if_neg d34, hR.fa hO1 hF1 hZx, hO1.mono (by omega) (by omega)⟩
                · skip
                  refine lv_lookup (off := 41) (tgt := 120) hx hb dX11_fairs_79 (by decide) (by decide) (by decide) ?_
                  refine xaload_n hx hb dX11_fairs_120 hl rfl ?_
                  refine xget (C := RX11) (T := TX11) (N := 9) hx hb (ci := 11) hts hiX11 hown hG hw (by repeat first | assumption | exact wu_eq _ _ _ | refine wu_ne (by omega) ?_) rfl 5 (by decide) hlnk1 (fun _ h9 => h9) rfl dX11_fairs_121 ?_
                  refine xVi ⟨hx, hb, hml, hown, hts⟩ (kX4_seed l N0 G _ _ _ _ _ hF1) (cwV 0 hts gX11_fairs_X4_seed rfl rfl rfl (by decide +kernel) ⟨Nat.le_of_ble_eq_true rfl, Nat.le_of_ble_eq_true rfl⟩) hG hN hw hS (ci := 4) (by repeat first | assumption | exact wu_eq _ _ _ | refine wu_ne (by omega) ?_) rfl rfl hl.1 rfl (Nat.le_of_ble_eq_true rfl) dX11_fairs_124 ⟨Nat.le_of_ble_eq_true rfl, Nat.le_of_ble_eq_true rfl⟩ (fun r124 w124 H locs hp124 hw hS => ?_)
                  obtain ⟨rfl, rfl⟩ := hp124
                  exact xiret hx hb hr hlk hw hS dX11_fairs_127 ⟨if_neg d34, hR.fa hO1 hF1 hZx, hO1.mono (by omega) (by omega)⟩
              · skip
                refine xaload_n hx hb dX11_fairs_61 hl rfl ?_
                refine xget (C := RX11) (T := TX11) (N := 9) hx hb (ci := 11) hts hiX11 hown hG hw (by repeat first | assumption | exact wu_eq _ _ _ | refine wu_ne (by omega) ?_) rfl 5 (by decide) hlnk1 (fun _ h9 => h9) rfl dX11_fairs_62 ?_
                refine xaload_n hx hb dX11_fairs_65 hl rfl ?_
                refine xget (C := RX11) (T := TX11) (N := 9) hx hb (ci := 11) hts hiX11 hown hG hw (by repeat first | assumption | exact wu_eq _ _ _ | refine wu_ne (by omega) ?_) rfl 1 (by decide) hlnk0 (fun _ h9 => h9) rfl dX11_fairs_66 ?_
                refine xVv ⟨hx, hb, hml, hown, hts⟩ (kX4_holdOne l N0 G _ _ _ _ _ hF1 _ Z _ _ hT1 (by omega) (by omega) (fgo_all (P := sP S) (lim := sL S) (F := (d, (sB S).1, 0, 0)) (by omega) hW.1.1 i)) (cwV 1 hts gX11_fairs_X4_holdOne rfl rfl rfl (by decide +kernel) ⟨Nat.le_of_ble_eq_true rfl, Nat.le_of_ble_eq_true rfl⟩) hG hN hw hS (ci := 4) (by repeat first | assumption | exact wu_eq _ _ _ | refine wu_ne (by omega) ?_) rfl rfl hl.1 rfl (Nat.le_of_ble_eq_true rfl) dX11_fairs_69 ⟨Nat.le_of_ble_eq_true rfl, Nat.le_of_ble_eq_true rfl⟩ (fun r69 w69 H locs hp69 hw hS => ?_)
                obtain ⟨hF2, hO2⟩ := hp69
                first | refine xiincN hx hb 1 dX11_fairs_72 hl rfl (by decide) (by decide) rfl (fun ls hl => ?_) | refine xiinc hx hb dX11_fairs_72 hl rfl rfl (by decide) rfl (fun ls hl => ?_)
                refine lv_goto (tgt := 55) hx hb dX11_fairs_75 (by decide) ?_
                exact ih55 (i + 1) _ _ _ _ (by omega) (by omega) hF2 (hO1.tr hO2 (by omega) (by omega)) hw hS hl
          exact loop55 (t + 1) 0 _ _ _ _ (by omega) (by omega) hF0 hO0 hw hS hl
        · skip
          have d34 : sn S = 0 := of_decide_eq_true c34
          refine lv_bipush (v := -103) hx hb dX11_fairs_37 (by decide) ?_
          exact xiret hx hb hr hlk hw hS dX11_fairs_39 ⟨if_pos d34, hR, Out.rf⟩
      · skip
        exfalso
        omega
set_option maxHeartbeats 4000000 in
set_option maxRecDepth 100000 in
theorem kX11_fairs_out (l : Launch) (N0 : Nat) (G : XG) (w : Wd) (x0 Z : Nat) (S : QS) (hR : RLQ G w x0 Z S) (hW : WF S) (hZx : x0 + 52 ≤ Z) (x y z : Int32) (hout : x < nI 1 ∨ nI 60 < x ∨ y < 0 ∨ z < 0 ∨ nI 2 < z) : XM l yX11_fairs wsX11_fairs (rmD 7) N0 G [.ref x0, .int x, .int y, .int z] w vI (fun r w1 => -102 = r ∧ RLQ G w1 x0 Z S ∧ Out w w1 x0 (x0 + 52)) 0 0 := by
  refine XM.of (cc := cX11_fairs) (maxL := 5) (ret := (some .int)) (by decide) rfl (Nat.le_of_ble_eq_true rfl) ?_
  intro p e s m below meth c hx hb hr hlk hin0 hml hown hts hN hw hG hS ls hl
  have hown : s.vm.findClass RX11 = some m.cls := hown
  have hl : lh ls 5 [some (.ref x0), some (.int x), some (.int y), some (.int z), none] := hl
  refine xiload_n hx hb dX11_fairs_0 hl rfl ?_
  refine lv_iconst (v := nI 1) hx hb dX11_fairs_1 (by decide) ?_
  refine lv_icmp_lt (tgt := 24) hx hb dX11_fairs_2 (by decide) (fun c2 => ?_) (fun c2 => ?_)
  · skip
    refine lv_bipush (v := -102) hx hb dX11_fairs_24 (by decide) ?_
    exact xiret hx hb hr hlk hw hS dX11_fairs_26 ⟨rfl, hR, Out.rf⟩
  · skip
    refine xiload_n hx hb dX11_fairs_5 hl rfl ?_
    refine lv_bipush (v := nI 60) hx hb dX11_fairs_6 (by decide) ?_
    refine lv_icmp_gt (tgt := 24) hx hb dX11_fairs_8 (by decide) (fun c8 => ?_) (fun c8 => ?_)
    · skip
      refine lv_bipush (v := -102) hx hb dX11_fairs_24 (by decide) ?_
      exact xiret hx hb hr hlk hw hS dX11_fairs_26 ⟨rfl, hR, Out.rf⟩
    · skip
      refine xiload_n hx hb dX11_fairs_11 hl rfl ?_
      refine lv_if_lt (tgt := 24) hx hb dX11_fairs_12 (by decide) (fun c12 => ?_) (fun c12 => ?_)
      · skip
        refine lv_bipush (v := -102) hx hb dX11_fairs_24 (by decide) ?_
        exact xiret hx hb hr hlk hw hS dX11_fairs_26 ⟨rfl, hR, Out.rf⟩
      · skip
        refine xiload_n hx hb dX11_fairs_15 hl rfl ?_
        refine lv_if_lt (tgt := 24) hx hb dX11_fairs_16 (by decide) (fun c16 => ?_) (fun c16 => ?_)
        · skip
          refine lv_bipush (v := -102) hx hb dX11_fairs_24 (by decide) ?_
          exact xiret hx hb hr hlk hw hS dX11_fairs_26 ⟨rfl, hR, Out.rf⟩
        · skip
          refine xiload_n hx hb dX11_fairs_19 hl rfl ?_
          refine lv_iconst (v := nI 2) hx hb dX11_fairs_20 (by decide) ?_
          refine lv_icmp_le (tgt := 27) hx hb dX11_fairs_21 (by decide) (fun c21 => ?_) (fun c21 => ?_)
          · skip
            exfalso
            rcases hout with q | q | q | q | q
            · exact c2 q
            · exact c8 q
            · exact c12 q
            · exact c16 q
            · rw [Int32.lt_iff_toInt_lt] at q
              rw [Int32.le_iff_toInt_le] at c21
              omega
          · skip
            refine lv_bipush (v := -102) hx hb dX11_fairs_24 (by decide) ?_
            exact xiret hx hb hr hlk hw hS dX11_fairs_26 ⟨rfl, hR, Out.rf⟩
theorem kX11_fairs (l : Launch) (N0 : Nat) (G : XG) (w : Wd) (x0 Z : Nat) (S : QS) (hR : RLQ G w x0 Z S) (hW : WF S) (hZx : x0 + 52 ≤ Z) (x y z : Int32) : XM l yX11_fairs wsX11_fairs (rmD 7) N0 G [.ref x0, .int x, .int y, .int z] w vI (fun r w1 => v_fairs S x y z = r ∧ RLQ G w1 x0 Z S ∧ Out w w1 x0 (x0 + 52)) 0 0 := by
  by_cases hout : x < nI 1 ∨ nI 60 < x ∨ y < 0 ∨ z < 0 ∨ nI 2 < z
  · rw [fairs_out hout]
    exact kX11_fairs_out l N0 G w x0 Z S hR hW hZx x y z hout
  · obtain ⟨t, d, k, h1, h2, h3, h4, rfl, rfl, rfl⟩ := fairs_cs hout
    rw [fairs_in h1 h2 h3 h4]
    exact kX11_fairs_in l N0 G w x0 Z S hR hW hZx t d k h1 h2 h3 h4
set_option maxHeartbeats 4000000 in
set_option maxRecDepth 100000 in
theorem kX11_mixPerson (l : Launch) (N0 : Nat) (G : XG) (w : Wd) (x0 Z : Nat) (S : QS) (hR : RLQ G w x0 Z S) (hW : WF S) (hZx : x0 + 52 ≤ Z) (h : Int64) (p1 : Nat) (hp1 : p1 < sn S) : XM l yX11_mixPerson wsX11_mixPerson (rmD 13) N0 G [.ref x0, .long h, .int (nI p1)] w vL (fun r w1 => digP S h p1 = r ∧ RLQ G w1 x0 Z S ∧ Out w w1 x0 (x0 + 52)) 0 0 := by
  refine XM.of (cc := cX11_mixPerson) (maxL := 7) (ret := (some .long)) (by decide) rfl (Nat.le_of_ble_eq_true rfl) ?_
  intro p e s m below meth c hx hb hr hlk hin0 hml hown hts hN hw hG hS ls hl
  have hown : s.vm.findClass RX11 = some m.cls := hown
  have hl : lh ls 7 [some (.ref x0), some (.long h), none, some (.int (nI p1)), none, none, none] := hl
  obtain ⟨hx0, hPg, hTn, hBk, ⟨Bi, hBi, hBie⟩, ⟨hs, Ts, fw, fr, hSr⟩, ⟨dsF, hdF, F, hFr⟩⟩ := id hR
  obtain ⟨h5, hlim⟩ := hTn.five
  have hsn : sn S = (sP S).length := rfl
  have hpgc := hPg.cell
  have htnc := hTn.cell
  have hbkc := hBk.cell
  have hbic := hBi.cell
  have hsrc := hSr.cell
  have hfrc := hFr.1
  obtain ⟨hd6, hh6, hdw⟩ := hBk.six
  have hsd : (sd S).length = (sB S).2.1.length := rfl
  have hsh : (sh S).length = (sB S).2.2.length := rfl
  refine xlload_n hx hb dX11_mixPerson_0 hl rfl ?_
  refine xlstore hx hb dX11_mixPerson_1 hl (by decide) rfl (fun ls hl => ?_)
  refine lv_iconst (v := nI 0) hx hb dX11_mixPerson_3 (by decide) ?_
  refine xistore hx hb dX11_mixPerson_4 hl (by decide) rfl (fun ls hl => ?_)
  have loop6 : ∀ (nf : Nat) (k : Nat) (H : Heap) (locs : List Loc) (ls : Array Slot), 6 - k < nf → (k ≤ 6) → PW N0 G w H → va_S (fun q => N0 ≤ q) s.heap H locs → lh ls 7 [some (.ref x0), some (.long h), none, some (.int (nI p1)), some (.long (mxs (oneV S p1) h k)), none, some (.int (nI k))] → W p l e (rmD 13) s m ([.ref x0, .long h, .int (nI p1)] : List Value).toArray below meth c H locs 0 0 (MQ below (XQ N0 G vL (fun r w1 => digP S h p1 = r ∧ RLQ G w1 x0 Z S ∧ Out w w1 x0 (x0 + 52))) ([.ref x0, .long h, .int (nI p1)] : List Value).toArray s 0 0 (fun q => N0 ≤ q)) (F0 m 6 ls []) := by
    intro nf
    induction nf with
    | zero => intros; omega
    | succ nf ih6 =>
      intro k H locs ls hnf hk hw hS hl
      refine xiload hx hb dX11_mixPerson_6 hl rfl ?_
      refine lv_iconst (v := nI 5) hx hb dX11_mixPerson_8 (by decide) ?_
      first | refine xcmp_gt (tgt := 32) hx hb dX11_mixPerson_9 (by decide) (by omega) (by omega) (fun c9 => ?_) (fun c9 => ?_) | refine lv_icmp_gt (tgt := 32) hx hb dX11_mixPerson_9 (by decide) (fun c9 => ?_) (fun c9 => ?_)
      · skip
        obtain rfl : k = 6 := by omega
        refine xlload hx hb dX11_mixPerson_32 hl rfl ?_
        refine xaload_n hx hb dX11_mixPerson_34 hl rfl ?_
        refine xiload_n hx hb dX11_mixPerson_35 hl rfl ?_
        refine lv_iconst (v := nI 0) hx hb dX11_mixPerson_36 (by decide) ?_
        refine xVi ⟨hx, hb, hml, hown, hts⟩ (kX11_owes l N0 G _ _ Z S hR hW hZx _ _) (cwV 2 hts gX11_mixPerson_X11_owes rfl rfl rfl (by decide +kernel) ⟨Nat.le_of_ble_eq_true rfl, Nat.le_of_ble_eq_true rfl⟩) hG hN hw hS (ci := 11) (by repeat first | assumption | exact wu_eq _ _ _ | refine wu_ne (by omega) ?_) rfl rfl hl.1 rfl (Nat.le_of_ble_eq_true rfl) dX11_mixPerson_37 ⟨Nat.le_of_ble_eq_true rfl, Nat.le_of_ble_eq_true rfl⟩ (fun r37 w37 H locs hp37 hw hS => ?_)
        obtain ⟨rfl, rfl⟩ := hp37
        refine xtop (show v_owes S (nI p1) (nI 0) = oweV S p1 0 by rw [v_owes, onR_in hp1 (by omega), onR_in (by omega) (by omega)]) ?_
        refine xSl ⟨hx, hb, hml, hown, hts⟩ (kX11_mix l N0 G _ _ _) (va_cwS 2 hts gX11_mixPerson_X11_mix rfl rfl rfl (by decide +kernel) ⟨Nat.le_of_ble_eq_true rfl, Nat.le_of_ble_eq_true rfl⟩) hG hN hw hS rfl hl.1 rfl (Nat.le_of_ble_eq_true rfl) dX11_mixPerson_40 ⟨Nat.le_of_ble_eq_true rfl, Nat.le_of_ble_eq_true rfl⟩ (fun r40 w40 H locs hp40 hw hS => ?_)
        obtain ⟨rfl, rfl⟩ := hp40
        refine xaload_n hx hb dX11_mixPerson_43 hl rfl ?_
        refine xiload_n hx hb dX11_mixPerson_44 hl rfl ?_
        refine lv_iconst (v := nI 1) hx hb dX11_mixPerson_45 (by decide) ?_
        refine xVi ⟨hx, hb, hml, hown, hts⟩ (kX11_owes l N0 G _ _ Z S hR hW hZx _ _) (cwV 2 hts gX11_mixPerson_X11_owes rfl rfl rfl (by decide +kernel) ⟨Nat.le_of_ble_eq_true rfl, Nat.le_of_ble_eq_true rfl⟩) hG hN hw hS (ci := 11) (by repeat first | assumption | exact wu_eq _ _ _ | refine wu_ne (by omega) ?_) rfl rfl hl.1 rfl (Nat.le_of_ble_eq_true rfl) dX11_mixPerson_46 ⟨Nat.le_of_ble_eq_true rfl, Nat.le_of_ble_eq_true rfl⟩ (fun r46 w46 H locs hp46 hw hS => ?_)
        obtain ⟨rfl, rfl⟩ := hp46
        refine xtop (show v_owes S (nI p1) (nI 1) = oweV S p1 1 by rw [v_owes, onR_in hp1 (by omega), onR_in (by omega) (by omega)]) ?_
        refine xSl ⟨hx, hb, hml, hown, hts⟩ (kX11_mix l N0 G _ _ _) (va_cwS 2 hts gX11_mixPerson_X11_mix rfl rfl rfl (by decide +kernel) ⟨Nat.le_of_ble_eq_true rfl, Nat.le_of_ble_eq_true rfl⟩) hG hN hw hS rfl hl.1 rfl (Nat.le_of_ble_eq_true rfl) dX11_mixPerson_49 ⟨Nat.le_of_ble_eq_true rfl, Nat.le_of_ble_eq_true rfl⟩ (fun r49 w49 H locs hp49 hw hS => ?_)
        obtain ⟨rfl, rfl⟩ := hp49
        refine xlstore hx hb dX11_mixPerson_52 hl (by decide) rfl (fun ls hl => ?_)
        refine xlload hx hb dX11_mixPerson_54 hl rfl ?_
        refine xaload_n hx hb dX11_mixPerson_56 hl rfl ?_
        refine xiload_n hx hb dX11_mixPerson_57 hl rfl ?_
        refine lv_iconst (v := nI 2) hx hb dX11_mixPerson_58 (by decide) ?_
        refine lv_iconst (v := nI 0) hx hb dX11_mixPerson_59 (by decide) ?_
        refine xVi ⟨hx, hb, hml, hown, hts⟩ (kX11_hands l N0 G _ _ Z S hR hW hZx _ _ _) (cwV 3 hts gX11_mixPerson_X11_hands rfl rfl rfl (by decide +kernel) ⟨Nat.le_of_ble_eq_true rfl, Nat.le_of_ble_eq_true rfl⟩) hG hN hw hS (ci := 11) (by repeat first | assumption | exact wu_eq _ _ _ | refine wu_ne (by omega) ?_) rfl rfl hl.1 rfl (Nat.le_of_ble_eq_true rfl) dX11_mixPerson_60 ⟨Nat.le_of_ble_eq_true rfl, Nat.le_of_ble_eq_true rfl⟩ (fun r60 w60 H locs hp60 hw hS => ?_)
        obtain ⟨rfl, hR1, hO1⟩ := hp60
        have hx1 := hR1.1
        refine xtop (show v_hands S (nI p1) (nI 2) (nI 0) = hndV S p1 2 0 by rw [v_hands, onR_in hp1 (by omega), onR_in (by omega) (by omega), onR_in (by omega) (by omega)]) ?_
        refine xSl ⟨hx, hb, hml, hown, hts⟩ (kX11_mix l N0 G _ _ _) (va_cwS 2 hts gX11_mixPerson_X11_mix rfl rfl rfl (by decide +kernel) ⟨Nat.le_of_ble_eq_true rfl, Nat.le_of_ble_eq_true rfl⟩) hG hN hw hS rfl hl.1 rfl (Nat.le_of_ble_eq_true rfl) dX11_mixPerson_63 ⟨Nat.le_of_ble_eq_true rfl, Nat.le_of_ble_eq_true rfl⟩ (fun r63 w63 H locs hp63 hw hS => ?_)
        obtain ⟨rfl, rfl⟩ := hp63
        refine xaload_n hx hb dX11_mixPerson_66 hl rfl ?_
        refine xiload_n hx hb dX11_mixPerson_67 hl rfl ?_
        refine lv_iconst (v := nI 2) hx hb dX11_mixPerson_68 (by decide) ?_
        refine lv_iconst (v := nI 1) hx hb dX11_mixPerson_69 (by decide) ?_
        refine xVi ⟨hx, hb, hml, hown, hts⟩ (kX11_hands l N0 G _ _ Z S hR1 hW hZx _ _ _) (cwV 3 hts gX11_mixPerson_X11_hands rfl rfl rfl (by decide +kernel) ⟨Nat.le_of_ble_eq_true rfl, Nat.le_of_ble_eq_true rfl⟩) hG hN hw hS (ci := 11) (by repeat first | assumption | exact wu_eq _ _ _ | refine wu_ne (by omega) ?_) rfl rfl hl.1 rfl (Nat.le_of_ble_eq_true rfl) dX11_mixPerson_70 ⟨Nat.le_of_ble_eq_true rfl, Nat.le_of_ble_eq_true rfl⟩ (fun r70 w70 H locs hp70 hw hS => ?_)
        obtain ⟨rfl, hR2, hO2⟩ := hp70
        have hx2 := hR2.1
        refine xtop (show v_hands S (nI p1) (nI 2) (nI 1) = hndV S p1 2 1 by rw [v_hands, onR_in hp1 (by omega), onR_in (by omega) (by omega), onR_in (by omega) (by omega)]) ?_
        refine xSl ⟨hx, hb, hml, hown, hts⟩ (kX11_mix l N0 G _ _ _) (va_cwS 2 hts gX11_mixPerson_X11_mix rfl rfl rfl (by decide +kernel) ⟨Nat.le_of_ble_eq_true rfl, Nat.le_of_ble_eq_true rfl⟩) hG hN hw hS rfl hl.1 rfl (Nat.le_of_ble_eq_true rfl) dX11_mixPerson_73 ⟨Nat.le_of_ble_eq_true rfl, Nat.le_of_ble_eq_true rfl⟩ (fun r73 w73 H locs hp73 hw hS => ?_)
        obtain ⟨rfl, rfl⟩ := hp73
        refine xlstore hx hb dX11_mixPerson_76 hl (by decide) rfl (fun ls hl => ?_)
        refine xlload hx hb dX11_mixPerson_78 hl rfl ?_
        refine xaload_n hx hb dX11_mixPerson_80 hl rfl ?_
        refine xiload_n hx hb dX11_mixPerson_81 hl rfl ?_
        refine lv_iconst (v := nI 2) hx hb dX11_mixPerson_82 (by decide) ?_
        refine xVi ⟨hx, hb, hml, hown, hts⟩ (kX11_ask l N0 G _ _ Z S hR2 hW hZx _ _) (cwV 2 hts gX11_mixPerson_X11_ask rfl rfl rfl (by decide +kernel) ⟨Nat.le_of_ble_eq_true rfl, Nat.le_of_ble_eq_true rfl⟩) hG hN hw hS (ci := 11) (by repeat first | assumption | exact wu_eq _ _ _ | refine wu_ne (by omega) ?_) rfl rfl hl.1 rfl (Nat.le_of_ble_eq_true rfl) dX11_mixPerson_83 ⟨Nat.le_of_ble_eq_true rfl, Nat.le_of_ble_eq_true rfl⟩ (fun r83 w83 H locs hp83 hw hS => ?_)
        obtain ⟨rfl, hR3, hO3⟩ := hp83
        refine xtop (show v_ask S (nI p1) (nI 2) = askV S p1 2 by rw [v_ask, onR_in hp1 (by omega), onR_in (by omega) (by omega)]) ?_
        refine xSl ⟨hx, hb, hml, hown, hts⟩ (kX11_mix l N0 G _ _ _) (va_cwS 2 hts gX11_mixPerson_X11_mix rfl rfl rfl (by decide +kernel) ⟨Nat.le_of_ble_eq_true rfl, Nat.le_of_ble_eq_true rfl⟩) hG hN hw hS rfl hl.1 rfl (Nat.le_of_ble_eq_true rfl) dX11_mixPerson_86 ⟨Nat.le_of_ble_eq_true rfl, Nat.le_of_ble_eq_true rfl⟩ (fun r86 w86 H locs hp86 hw hS => ?_)
        obtain ⟨rfl, rfl⟩ := hp86
        exact xlret hx hb hr hlk hw hS dX11_mixPerson_89 ⟨rfl, hR3, (hO1.tr hO2 (Nat.le_refl _) (Nat.le_refl _)).tr hO3 (Nat.le_refl _) (Nat.le_refl _)⟩
      · skip
        refine xlload hx hb dX11_mixPerson_12 hl rfl ?_
        refine xaload_n hx hb dX11_mixPerson_14 hl rfl ?_
        refine xiload_n hx hb dX11_mixPerson_15 hl rfl ?_
        refine xiload hx hb dX11_mixPerson_16 hl rfl ?_
        refine xVi ⟨hx, hb, hml, hown, hts⟩ (kX11_about l N0 G _ _ Z S hR hW hZx _ _) (cwV 2 hts gX11_mixPerson_X11_about rfl rfl rfl (by decide +kernel) ⟨Nat.le_of_ble_eq_true rfl, Nat.le_of_ble_eq_true rfl⟩) hG hN hw hS (ci := 11) (by repeat first | assumption | exact wu_eq _ _ _ | refine wu_ne (by omega) ?_) rfl rfl hl.1 rfl (Nat.le_of_ble_eq_true rfl) dX11_mixPerson_18 ⟨Nat.le_of_ble_eq_true rfl, Nat.le_of_ble_eq_true rfl⟩ (fun r18 w18 H locs hp18 hw hS => ?_)
        obtain ⟨rfl, rfl⟩ := hp18
        refine xtop (show v_about S (nI p1) (nI k) = oneV S p1 k by rw [v_about, onR_in hp1 (by omega), onR_in (by omega) (by omega)]) ?_
        refine xSl ⟨hx, hb, hml, hown, hts⟩ (kX11_mix l N0 G _ _ _) (va_cwS 2 hts gX11_mixPerson_X11_mix rfl rfl rfl (by decide +kernel) ⟨Nat.le_of_ble_eq_true rfl, Nat.le_of_ble_eq_true rfl⟩) hG hN hw hS rfl hl.1 rfl (Nat.le_of_ble_eq_true rfl) dX11_mixPerson_21 ⟨Nat.le_of_ble_eq_true rfl, Nat.le_of_ble_eq_true rfl⟩ (fun r21 w21 H locs hp21 hw hS => ?_)
        obtain ⟨rfl, rfl⟩ := hp21
        refine xlstore hx hb dX11_mixPerson_24 hl (by decide) rfl (fun ls hl => ?_)
        first | refine xiincN hx hb 1 dX11_mixPerson_26 hl rfl (by decide) (by decide) rfl (fun ls hl => ?_) | refine xiinc hx hb dX11_mixPerson_26 hl rfl rfl (by decide) rfl (fun ls hl => ?_)
        refine lv_goto (tgt := 6) hx hb dX11_mixPerson_29 (by decide) ?_
        exact ih6 (k + 1) _ _ _ (by omega) (by omega) hw hS hl
  exact loop6 7 0 _ _ _ (by omega) (by omega) hw hS hl
set_option maxHeartbeats 4000000 in
set_option maxRecDepth 100000 in
theorem kX11_digest (l : Launch) (N0 : Nat) (G : XG) (w : Wd) (x0 Z : Nat) (S : QS) (hR : RLQ G w x0 Z S) (hW : WF S) (hZx : x0 + 52 ≤ Z) : XM l yX11_digest wsX11_digest (rmD 14) N0 G [.ref x0] w vL (fun r w1 => v_digest S = r ∧ RLQ G w1 x0 Z S ∧ Out w w1 x0 (x0 + 52)) 0 0 := by
  refine XM.of (cc := cX11_digest) (maxL := 5) (ret := (some .long)) (by decide) rfl (Nat.le_of_ble_eq_true rfl) ?_
  intro p e s m below meth c hx hb hr hlk hin0 hml hown hts hN hw hG hS ls hl
  have hown : s.vm.findClass RX11 = some m.cls := hown
  have hiX11 : ∀ x ∈ u_ws RX11 TX11 9, x ∈ wsX11_digest := by decide +kernel
  have hlnk0 := hts (.constantLong RX11 246 (967)) (by decide +kernel)
  have hlnk1 := hts (.fieldLink RX11 19 "LentQuill" "town" "LLentQuill$Town;") (by decide +kernel)
  have hlnk2 := hts (.fieldLink RX11 26 "LentQuill" "books" "LLentQuill$Books;") (by decide +kernel)
  have hlnk3 := hts (.fieldLink RX11 10 "LentQuill" "page" "LLentQuill$Page;") (by decide +kernel)
  have hl : lh ls 5 [some (.ref x0), none, none, none, none] := hl
  obtain ⟨hx0, hPg, hTn, hBk, ⟨Bi, hBi, hBie⟩, ⟨hs, Ts, fw, fr, hSr⟩, ⟨dsF, hdF, F, hFr⟩⟩ := id hR
  obtain ⟨h5, hlim⟩ := hTn.five
  have hsn : sn S = (sP S).length := rfl
  have hpgc := hPg.cell
  have htnc := hTn.cell
  have hbkc := hBk.cell
  have hbic := hBi.cell
  have hsrc := hSr.cell
  have hfrc := hFr.1
  obtain ⟨hd6, hh6, hdw⟩ := hBk.six
  have hsd : (sd S).length = (sB S).2.1.length := rfl
  have hsh : (sh S).length = (sB S).2.2.length := rfl
  refine lv_ldc2 hx hb hown hlnk0 dX11_digest_0 ?_
  refine xtopl (y := lN 967) (by decide) ?_
  refine xtopl (y := (967 : Int64)) (by decide) ?_
  refine xlstore_n hx hb dX11_digest_3 hl (by decide) rfl (fun ls hl => ?_)
  refine lv_iconst (v := nI 0) hx hb dX11_digest_4 (by decide) ?_
  refine xistore_n hx hb dX11_digest_5 hl (by decide) rfl (fun ls hl => ?_)
  have loop6 : ∀ (nf : Nat) (i : Nat) (w1 : Wd) (H : Heap) (locs : List Loc) (ls : Array Slot), sn S - i < nf → (i ≤ sn S) → (RLQ G w1 x0 Z S) → (Out w w1 x0 (x0 + 52)) → PW N0 G w1 H → va_S (fun q => N0 ≤ q) s.heap H locs → lh ls 5 [some (.ref x0), some (.long (digPs S 967 i)), none, some (.int (nI i)), none] → W p l e (rmD 14) s m ([.ref x0] : List Value).toArray below meth c H locs 0 0 (MQ below (XQ N0 G vL (fun r w1 => v_digest S = r ∧ RLQ G w1 x0 Z S ∧ Out w w1 x0 (x0 + 52))) ([.ref x0] : List Value).toArray s 0 0 (fun q => N0 ≤ q)) (F0 m 6 ls []) := by
    intro nf
    induction nf with
    | zero => intros; omega
    | succ nf ih6 =>
      intro i w1 H locs ls hnf hi hR1 hO1 hw hS hl
      have hR := hR1
      obtain ⟨hx0, hPg, hTn, hBk, ⟨Bi, hBi, hBie⟩, ⟨hs, Ts, fw, fr, hSr⟩, ⟨dsF, hdF, F, hFr⟩⟩ := id hR
      obtain ⟨h5, hlim⟩ := hTn.five
      have hsn : sn S = (sP S).length := rfl
      have hpgc := hPg.cell
      have htnc := hTn.cell
      have hbkc := hBk.cell
      have hbic := hBi.cell
      have hsrc := hSr.cell
      have hfrc := hFr.1
      obtain ⟨hd6, hh6, hdw⟩ := hBk.six
      have hsd : (sd S).length = (sB S).2.1.length := rfl
      have hsh : (sh S).length = (sB S).2.2.length := rfl
      have h18 := hPg.len
      have hsg : (sg S).length ≤ 18 := h18
      refine xiload_n hx hb dX11_digest_6 hl rfl ?_
      refine xaload_n hx hb dX11_digest_7 hl rfl ?_
      refine xget (C := RX11) (T := TX11) (N := 9) hx hb (ci := 11) hts hiX11 hown hG hw (by repeat first | assumption | exact wu_eq _ _ _ | refine wu_ne (by omega) ?_) rfl 1 (by decide) hlnk1 (fun _ h9 => h9) rfl dX11_digest_8 ?_
      refine xVi ⟨hx, hb, hml, hown, hts⟩ (kX10_size l N0 G _ _ Z _ _ hTn) (cwV 0 hts gX11_digest_X10_size rfl rfl rfl (by decide +kernel) ⟨Nat.le_of_ble_eq_true rfl, Nat.le_of_ble_eq_true rfl⟩) hG hN hw hS (ci := 10) (by repeat first | assumption | exact wu_eq _ _ _ | refine wu_ne (by omega) ?_) rfl rfl hl.1 rfl (Nat.le_of_ble_eq_true rfl) dX11_digest_11 ⟨Nat.le_of_ble_eq_true rfl, Nat.le_of_ble_eq_true rfl⟩ (fun r11 w11 H locs hp11 hw hS => ?_)
      obtain ⟨rfl, rfl⟩ := hp11
      first | refine xcmp_ge (tgt := 30) hx hb dX11_digest_14 (by decide) (by omega) (by omega) (fun c14 => ?_) (fun c14 => ?_) | refine lv_icmp_ge (tgt := 30) hx hb dX11_digest_14 (by decide) (fun c14 => ?_) (fun c14 => ?_)
      · skip
        obtain rfl : i = sn S := by omega
        refine lv_iconst (v := nI 0) hx hb dX11_digest_30 (by decide) ?_
        refine xistore_n hx hb dX11_digest_31 hl (by decide) rfl (fun ls hl => ?_)
        have loop32 : ∀ (nf : Nat) (j : Nat) (u : Option Value) (H : Heap) (locs : List Loc) (ls : Array Slot), (sd S).length - j < nf → (j ≤ (sd S).length) → PW N0 G w1 H → va_S (fun q => N0 ≤ q) s.heap H locs → lh ls 5 [some (.ref x0), some (.long (digDs S (digPs S 967 (sn S)) j)), none, some (.int (nI j)), u] → W p l e (rmD 14) s m ([.ref x0] : List Value).toArray below meth c H locs 0 0 (MQ below (XQ N0 G vL (fun r w1 => v_digest S = r ∧ RLQ G w1 x0 Z S ∧ Out w w1 x0 (x0 + 52))) ([.ref x0] : List Value).toArray s 0 0 (fun q => N0 ≤ q)) (F0 m 32 ls []) := by
          intro nf
          induction nf with
          | zero => intros; omega
          | succ nf ih32 =>
            intro j u H locs ls hnf hj hw hS hl
            refine xiload_n hx hb dX11_digest_32 hl rfl ?_
            refine xaload_n hx hb dX11_digest_33 hl rfl ?_
            refine xget (C := RX11) (T := TX11) (N := 9) hx hb (ci := 11) hts hiX11 hown hG hw (by repeat first | assumption | exact wu_eq _ _ _ | refine wu_ne (by omega) ?_) rfl 2 (by decide) hlnk2 (fun _ h9 => h9) rfl dX11_digest_34 ?_
            refine xVi ⟨hx, hb, hml, hown, hts⟩ (kX2_deeds l N0 G _ _ _ _ _ hBk) (cwV 0 hts gX11_digest_X2_deeds rfl rfl rfl (by decide +kernel) ⟨Nat.le_of_ble_eq_true rfl, Nat.le_of_ble_eq_true rfl⟩) hG hN hw hS (ci := 2) (by repeat first | assumption | exact wu_eq _ _ _ | refine wu_ne (by omega) ?_) rfl rfl hl.1 rfl (Nat.le_of_ble_eq_true rfl) dX11_digest_37 ⟨Nat.le_of_ble_eq_true rfl, Nat.le_of_ble_eq_true rfl⟩ (fun r37 w37 H locs hp37 hw hS => ?_)
            obtain ⟨rfl, rfl⟩ := hp37
            first | refine xcmp_ge (tgt := 76) hx hb dX11_digest_40 (by decide) (by omega) (by omega) (fun c40 => ?_) (fun c40 => ?_) | refine lv_icmp_ge (tgt := 76) hx hb dX11_digest_40 (by decide) (fun c40 => ?_) (fun c40 => ?_)
            · skip
              obtain rfl : j = (sd S).length := by omega
              refine xaload_n hx hb dX11_digest_76 hl rfl ?_
              refine xget (C := RX11) (T := TX11) (N := 9) hx hb (ci := 11) hts hiX11 hown hG hw (by repeat first | assumption | exact wu_eq _ _ _ | refine wu_ne (by omega) ?_) rfl 1 (by decide) hlnk1 (fun _ h9 => h9) rfl dX11_digest_77 ?_
              refine xVi ⟨hx, hb, hml, hown, hts⟩ (kX10_isEmpty l N0 G _ _ Z _ _ hTn) (cwV 0 hts gX11_digest_X10_isEmpty rfl rfl rfl (by decide +kernel) ⟨Nat.le_of_ble_eq_true rfl, Nat.le_of_ble_eq_true rfl⟩) hG hN hw hS (ci := 10) (by repeat first | assumption | exact wu_eq _ _ _ | refine wu_ne (by omega) ?_) rfl rfl hl.1 rfl (Nat.le_of_ble_eq_true rfl) dX11_digest_80 ⟨Nat.le_of_ble_eq_true rfl, Nat.le_of_ble_eq_true rfl⟩ (fun r80 w80 H locs hp80 hw hS => ?_)
              obtain ⟨rfl, rfl⟩ := hp80
              first | refine xifb_ne (tgt := 104) hx hb dX11_digest_83 (by decide) (fun c83 => ?_) (fun c83 => ?_) | refine xif_ne (tgt := 104) hx hb dX11_digest_83 (by decide) (by omega) (fun c83 => ?_) (fun c83 => ?_) | refine lv_if_ne (tgt := 104) hx hb dX11_digest_83 (by decide) (fun c83 => ?_) (fun c83 => ?_)
              · skip
                have d83 : sn S = 0 := of_decide_eq_true c83
                have h2e := (dg2 S).1 d83
                refine lv_iconst (v := nI 0) hx hb dX11_digest_104 (by decide) ?_
                refine xistore_n hx hb dX11_digest_105 hl (by decide) rfl (fun ls hl => ?_)
                have loop106 : ∀ (nf : Nat) (a : Nat) (u : Option Value) (H : Heap) (locs : List Loc) (ls : Array Slot), (sg S).length - a < nf → (a ≤ (sg S).length) → PW N0 G w1 H → va_S (fun q => N0 ≤ q) s.heap H locs → lh ls 5 [some (.ref x0), some (.long (mxs (fun i => nI (pgc (sg S) i)) (dg2v S) a)), none, some (.int (nI a)), u] → W p l e (rmD 14) s m ([.ref x0] : List Value).toArray below meth c H locs 0 0 (MQ below (XQ N0 G vL (fun r w1 => v_digest S = r ∧ RLQ G w1 x0 Z S ∧ Out w w1 x0 (x0 + 52))) ([.ref x0] : List Value).toArray s 0 0 (fun q => N0 ≤ q)) (F0 m 106 ls []) := by
                  intro nf
                  induction nf with
                  | zero => intros; omega
                  | succ nf ih106 =>
                    intro a u H locs ls hnf ha hw hS hl
                    refine xiload_n hx hb dX11_digest_106 hl rfl ?_
                    refine xaload_n hx hb dX11_digest_107 hl rfl ?_
                    refine xget (C := RX11) (T := TX11) (N := 9) hx hb (ci := 11) hts hiX11 hown hG hw (by repeat first | assumption | exact wu_eq _ _ _ | refine wu_ne (by omega) ?_) rfl 0 (by decide) hlnk3 (fun _ h9 => h9) rfl dX11_digest_108 ?_
                    refine xVi ⟨hx, hb, hml, hown, hts⟩ (kX5_size l N0 G _ _ _ hPg) (cwV 0 hts gX11_digest_X5_size rfl rfl rfl (by decide +kernel) ⟨Nat.le_of_ble_eq_true rfl, Nat.le_of_ble_eq_true rfl⟩) hG hN hw hS (ci := 5) (by repeat first | assumption | exact wu_eq _ _ _ | refine wu_ne (by omega) ?_) rfl rfl hl.1 rfl (Nat.le_of_ble_eq_true rfl) dX11_digest_111 ⟨Nat.le_of_ble_eq_true rfl, Nat.le_of_ble_eq_true rfl⟩ (fun r111 w111 H locs hp111 hw hS => ?_)
                    obtain ⟨rfl, rfl⟩ := hp111
                    first | refine xcmp_ge (tgt := 136) hx hb dX11_digest_114 (by decide) (by omega) (by omega) (fun c114 => ?_) (fun c114 => ?_) | refine lv_icmp_ge (tgt := 136) hx hb dX11_digest_114 (by decide) (fun c114 => ?_) (fun c114 => ?_)
                    · skip
                      obtain rfl : a = (sg S).length := by omega
                      refine lv_iconst (v := nI 0) hx hb dX11_digest_136 (by decide) ?_
                      refine xistore_n hx hb dX11_digest_137 hl (by decide) rfl (fun ls hl => ?_)
                      have loop138 : ∀ (nf : Nat) (b : Nat) (u : Option Value) (H : Heap) (locs : List Loc) (ls : Array Slot), 9 - b < nf → (b ≤ 9) → PW N0 G w1 H → va_S (fun q => N0 ≤ q) s.heap H locs → lh ls 5 [some (.ref x0), some (.long (mxs (cntV S) (mxs (fun i => nI (pgc (sg S) i)) (dg2v S) (sg S).length) b)), none, some (.int (nI b)), u] → W p l e (rmD 14) s m ([.ref x0] : List Value).toArray below meth c H locs 0 0 (MQ below (XQ N0 G vL (fun r w1 => v_digest S = r ∧ RLQ G w1 x0 Z S ∧ Out w w1 x0 (x0 + 52))) ([.ref x0] : List Value).toArray s 0 0 (fun q => N0 ≤ q)) (F0 m 138 ls []) := by
                        intro nf
                        induction nf with
                        | zero => intros; omega
                        | succ nf ih138 =>
                          intro b u H locs ls hnf hb9 hw hS hl
                          refine xiload_n hx hb dX11_digest_138 hl rfl ?_
                          refine lv_bipush (v := nI 9) hx hb dX11_digest_139 (by decide) ?_
                          first | refine xcmp_ge (tgt := 160) hx hb dX11_digest_141 (by decide) (by omega) (by omega) (fun c141 => ?_) (fun c141 => ?_) | refine lv_icmp_ge (tgt := 160) hx hb dX11_digest_141 (by decide) (fun c141 => ?_) (fun c141 => ?_)
                          · skip
                            obtain rfl : b = 9 := by omega
                            refine xlload_n hx hb dX11_digest_160 hl rfl ?_
                            exact xlret hx hb hr hlk hw hS dX11_digest_161 ⟨rfl, hR1, hO1⟩
                          · skip
                            refine xlload_n hx hb dX11_digest_144 hl rfl ?_
                            refine xaload_n hx hb dX11_digest_145 hl rfl ?_
                            refine xiload_n hx hb dX11_digest_146 hl rfl ?_
                            refine xVi ⟨hx, hb, hml, hown, hts⟩ (kX11_count l N0 G _ _ Z S hR1 hW hZx _) (cwV 1 hts gX11_digest_X11_count rfl rfl rfl (by decide +kernel) ⟨Nat.le_of_ble_eq_true rfl, Nat.le_of_ble_eq_true rfl⟩) hG hN hw hS (ci := 11) (by repeat first | assumption | exact wu_eq _ _ _ | refine wu_ne (by omega) ?_) rfl rfl hl.1 rfl (Nat.le_of_ble_eq_true rfl) dX11_digest_147 ⟨Nat.le_of_ble_eq_true rfl, Nat.le_of_ble_eq_true rfl⟩ (fun r147 w147 H locs hp147 hw hS => ?_)
                            obtain ⟨rfl, rfl⟩ := hp147
                            refine xtop (show v_count S (nI b) = cntV S b by rw [v_count, onR_in (by omega) (by omega)]) ?_
                            refine xSl ⟨hx, hb, hml, hown, hts⟩ (kX11_mix l N0 G _ _ _) (va_cwS 2 hts gX11_digest_X11_mix rfl rfl rfl (by decide +kernel) ⟨Nat.le_of_ble_eq_true rfl, Nat.le_of_ble_eq_true rfl⟩) hG hN hw hS rfl hl.1 rfl (Nat.le_of_ble_eq_true rfl) dX11_digest_150 ⟨Nat.le_of_ble_eq_true rfl, Nat.le_of_ble_eq_true rfl⟩ (fun r150 w150 H locs hp150 hw hS => ?_)
                            obtain ⟨rfl, rfl⟩ := hp150
                            refine xlstore_n hx hb dX11_digest_153 hl (by decide) rfl (fun ls hl => ?_)
                            first | refine xiincN hx hb 1 dX11_digest_154 hl rfl (by decide) (by decide) rfl (fun ls hl => ?_) | refine xiinc hx hb dX11_digest_154 hl rfl rfl (by decide) rfl (fun ls hl => ?_)
                            refine lv_goto (tgt := 138) hx hb dX11_digest_157 (by decide) ?_
                            exact ih138 (b + 1) _ _ _ _ (by omega) (by omega) hw hS hl
                      exact loop138 10 0 _ _ _ _ (by omega) (by omega) hw hS hl
                    · skip
                      refine xlload_n hx hb dX11_digest_117 hl rfl ?_
                      refine xaload_n hx hb dX11_digest_118 hl rfl ?_
                      refine xget (C := RX11) (T := TX11) (N := 9) hx hb (ci := 11) hts hiX11 hown hG hw (by repeat first | assumption | exact wu_eq _ _ _ | refine wu_ne (by omega) ?_) rfl 0 (by decide) hlnk3 (fun _ h9 => h9) rfl dX11_digest_119 ?_
                      refine xiload_n hx hb dX11_digest_122 hl rfl ?_
                      refine xVi ⟨hx, hb, hml, hown, hts⟩ (kX5_codeAt l N0 G _ _ _ hPg a (by omega)) (cwV 1 hts gX11_digest_X5_codeAt rfl rfl rfl (by decide +kernel) ⟨Nat.le_of_ble_eq_true rfl, Nat.le_of_ble_eq_true rfl⟩) hG hN hw hS (ci := 5) (by repeat first | assumption | exact wu_eq _ _ _ | refine wu_ne (by omega) ?_) rfl rfl hl.1 rfl (Nat.le_of_ble_eq_true rfl) dX11_digest_123 ⟨Nat.le_of_ble_eq_true rfl, Nat.le_of_ble_eq_true rfl⟩ (fun r123 w123 H locs hp123 hw hS => ?_)
                      obtain ⟨rfl, rfl⟩ := hp123
                      refine xSl ⟨hx, hb, hml, hown, hts⟩ (kX11_mix l N0 G _ _ _) (va_cwS 2 hts gX11_digest_X11_mix rfl rfl rfl (by decide +kernel) ⟨Nat.le_of_ble_eq_true rfl, Nat.le_of_ble_eq_true rfl⟩) hG hN hw hS rfl hl.1 rfl (Nat.le_of_ble_eq_true rfl) dX11_digest_126 ⟨Nat.le_of_ble_eq_true rfl, Nat.le_of_ble_eq_true rfl⟩ (fun r126 w126 H locs hp126 hw hS => ?_)
                      obtain ⟨rfl, rfl⟩ := hp126
                      refine xlstore_n hx hb dX11_digest_129 hl (by decide) rfl (fun ls hl => ?_)
                      first | refine xiincN hx hb 1 dX11_digest_130 hl rfl (by decide) (by decide) rfl (fun ls hl => ?_) | refine xiinc hx hb dX11_digest_130 hl rfl rfl (by decide) rfl (fun ls hl => ?_)
                      refine lv_goto (tgt := 106) hx hb dX11_digest_133 (by decide) ?_
                      exact ih106 (a + 1) _ _ _ _ (by omega) (by omega) hw hS hl
                have hl : lh ls 5 [some (.ref x0), some (.long (dg2v S)), none, some (.int (nI 0)), u] := by rw [h2e]; exact hl
                exact loop106 ((sg S).length + 1) 0 _ _ _ _ (by omega) (by omega) hw hS hl
              · skip
                have d83 : ¬ sn S = 0 := of_decide_eq_false c83
                have h2e := (dg2 S).2 d83
                refine xlload_n hx hb dX11_digest_86 hl rfl ?_
                refine xaload_n hx hb dX11_digest_87 hl rfl ?_
                refine lv_iconst (v := nI 0) hx hb dX11_digest_88 (by decide) ?_
                refine xVi ⟨hx, hb, hml, hown, hts⟩ (kX11_find l N0 G _ _ Z S hR1 hW hZx _) (cwV 1 hts gX11_digest_X11_find rfl rfl rfl (by decide +kernel) ⟨Nat.le_of_ble_eq_true rfl, Nat.le_of_ble_eq_true rfl⟩) hG hN hw hS (ci := 11) (by repeat first | assumption | exact wu_eq _ _ _ | refine wu_ne (by omega) ?_) rfl rfl hl.1 rfl (Nat.le_of_ble_eq_true rfl) dX11_digest_89 ⟨Nat.le_of_ble_eq_true rfl, Nat.le_of_ble_eq_true rfl⟩ (fun r89 w89 H locs hp89 hw hS => ?_)
                obtain ⟨rfl, rfl⟩ := hp89
                refine xtop (show v_find S (nI 0) = findV S 0 by rw [v_find, onR_in (by omega) (by omega)]; exact if_neg d83) ?_
                refine xSl ⟨hx, hb, hml, hown, hts⟩ (kX11_mix l N0 G _ _ _) (va_cwS 2 hts gX11_digest_X11_mix rfl rfl rfl (by decide +kernel) ⟨Nat.le_of_ble_eq_true rfl, Nat.le_of_ble_eq_true rfl⟩) hG hN hw hS rfl hl.1 rfl (Nat.le_of_ble_eq_true rfl) dX11_digest_92 ⟨Nat.le_of_ble_eq_true rfl, Nat.le_of_ble_eq_true rfl⟩ (fun r92 w92 H locs hp92 hw hS => ?_)
                obtain ⟨rfl, rfl⟩ := hp92
                refine xaload_n hx hb dX11_digest_95 hl rfl ?_
                refine lv_iconst (v := nI 1) hx hb dX11_digest_96 (by decide) ?_
                refine xVi ⟨hx, hb, hml, hown, hts⟩ (kX11_find l N0 G _ _ Z S hR1 hW hZx _) (cwV 1 hts gX11_digest_X11_find rfl rfl rfl (by decide +kernel) ⟨Nat.le_of_ble_eq_true rfl, Nat.le_of_ble_eq_true rfl⟩) hG hN hw hS (ci := 11) (by repeat first | assumption | exact wu_eq _ _ _ | refine wu_ne (by omega) ?_) rfl rfl hl.1 rfl (Nat.le_of_ble_eq_true rfl) dX11_digest_97 ⟨Nat.le_of_ble_eq_true rfl, Nat.le_of_ble_eq_true rfl⟩ (fun r97 w97 H locs hp97 hw hS => ?_)
                obtain ⟨rfl, rfl⟩ := hp97
                refine xtop (show v_find S (nI 1) = findV S 1 by rw [v_find, onR_in (by omega) (by omega)]; exact if_neg d83) ?_
                refine xSl ⟨hx, hb, hml, hown, hts⟩ (kX11_mix l N0 G _ _ _) (va_cwS 2 hts gX11_digest_X11_mix rfl rfl rfl (by decide +kernel) ⟨Nat.le_of_ble_eq_true rfl, Nat.le_of_ble_eq_true rfl⟩) hG hN hw hS rfl hl.1 rfl (Nat.le_of_ble_eq_true rfl) dX11_digest_100 ⟨Nat.le_of_ble_eq_true rfl, Nat.le_of_ble_eq_true rfl⟩ (fun r100 w100 H locs hp100 hw hS => ?_)
                obtain ⟨rfl, rfl⟩ := hp100
                refine xlstore_n hx hb dX11_digest_103 hl (by decide) rfl (fun ls hl => ?_)
                refine lv_iconst (v := nI 0) hx hb dX11_digest_104 (by decide) ?_
                refine xistore_n hx hb dX11_digest_105 hl (by decide) rfl (fun ls hl => ?_)
                have loop106 : ∀ (nf : Nat) (a : Nat) (u : Option Value) (H : Heap) (locs : List Loc) (ls : Array Slot), (sg S).length - a < nf → (a ≤ (sg S).length) → PW N0 G w1 H → va_S (fun q => N0 ≤ q) s.heap H locs → lh ls 5 [some (.ref x0), some (.long (mxs (fun i => nI (pgc (sg S) i)) (dg2v S) a)), none, some (.int (nI a)), u] → W p l e (rmD 14) s m ([.ref x0] : List Value).toArray below meth c H locs 0 0 (MQ below (XQ N0 G vL (fun r w1 => v_digest S = r ∧ RLQ G w1 x0 Z S ∧ Out w w1 x0 (x0 + 52))) ([.ref x0] : List Value).toArray s 0 0 (fun q => N0 ≤ q)) (F0 m 106 ls []) := by
                  intro nf
                  induction nf with
                  | zero => intros; omega
                  | succ nf ih106 =>
                    intro a u H locs ls hnf ha hw hS hl
                    refine xiload_n hx hb dX11_digest_106 hl rfl ?_
                    refine xaload_n hx hb dX11_digest_107 hl rfl ?_
                    refine xget (C := RX11) (T := TX11) (N := 9) hx hb (ci := 11) hts hiX11 hown hG hw (by repeat first | assumption | exact wu_eq _ _ _ | refine wu_ne (by omega) ?_) rfl 0 (by decide) hlnk3 (fun _ h9 => h9) rfl dX11_digest_108 ?_
                    refine xVi ⟨hx, hb, hml, hown, hts⟩ (kX5_size l N0 G _ _ _ hPg) (cwV 0 hts gX11_digest_X5_size rfl rfl rfl (by decide +kernel) ⟨Nat.le_of_ble_eq_true rfl, Nat.le_of_ble_eq_true rfl⟩) hG hN hw hS (ci := 5) (by repeat first | assumption | exact wu_eq _ _ _ | refine wu_ne (by omega) ?_) rfl rfl hl.1 rfl (Nat.le_of_ble_eq_true rfl) dX11_digest_111 ⟨Nat.le_of_ble_eq_true rfl, Nat.le_of_ble_eq_true rfl⟩ (fun r111 w111 H locs hp111 hw hS => ?_)
                    obtain ⟨rfl, rfl⟩ := hp111
                    first | refine xcmp_ge (tgt := 136) hx hb dX11_digest_114 (by decide) (by omega) (by omega) (fun c114 => ?_) (fun c114 => ?_) | refine lv_icmp_ge (tgt := 136) hx hb dX11_digest_114 (by decide) (fun c114 => ?_) (fun c114 => ?_)
                    · skip
                      obtain rfl : a = (sg S).length := by omega
                      refine lv_iconst (v := nI 0) hx hb dX11_digest_136 (by decide) ?_
                      refine xistore_n hx hb dX11_digest_137 hl (by decide) rfl (fun ls hl => ?_)
                      have loop138 : ∀ (nf : Nat) (b : Nat) (u : Option Value) (H : Heap) (locs : List Loc) (ls : Array Slot), 9 - b < nf → (b ≤ 9) → PW N0 G w1 H → va_S (fun q => N0 ≤ q) s.heap H locs → lh ls 5 [some (.ref x0), some (.long (mxs (cntV S) (mxs (fun i => nI (pgc (sg S) i)) (dg2v S) (sg S).length) b)), none, some (.int (nI b)), u] → W p l e (rmD 14) s m ([.ref x0] : List Value).toArray below meth c H locs 0 0 (MQ below (XQ N0 G vL (fun r w1 => v_digest S = r ∧ RLQ G w1 x0 Z S ∧ Out w w1 x0 (x0 + 52))) ([.ref x0] : List Value).toArray s 0 0 (fun q => N0 ≤ q)) (F0 m 138 ls []) := by
                        intro nf
                        induction nf with
                        | zero => intros; omega
                        | succ nf ih138 =>
                          intro b u H locs ls hnf hb9 hw hS hl
                          refine xiload_n hx hb dX11_digest_138 hl rfl ?_
                          refine lv_bipush (v := nI 9) hx hb dX11_digest_139 (by decide) ?_
                          first | refine xcmp_ge (tgt := 160) hx hb dX11_digest_141 (by decide) (by omega) (by omega) (fun c141 => ?_) (fun c141 => ?_) | refine lv_icmp_ge (tgt := 160) hx hb dX11_digest_141 (by decide) (fun c141 => ?_) (fun c141 => ?_)
                          · skip
                            obtain rfl : b = 9 := by omega
                            refine xlload_n hx hb dX11_digest_160 hl rfl ?_
                            exact xlret hx hb hr hlk hw hS dX11_digest_161 ⟨rfl, hR1, hO1⟩
                          · skip
                            refine xlload_n hx hb dX11_digest_144 hl rfl ?_
                            refine xaload_n hx hb dX11_digest_145 hl rfl ?_
                            refine xiload_n hx hb dX11_digest_146 hl rfl ?_
                            refine xVi ⟨hx, hb, hml, hown, hts⟩ (kX11_count l N0 G _ _ Z S hR1 hW hZx _) (cwV 1 hts gX11_digest_X11_count rfl rfl rfl (by decide +kernel) ⟨Nat.le_of_ble_eq_true rfl, Nat.le_of_ble_eq_true rfl⟩) hG hN hw hS (ci := 11) (by repeat first | assumption | exact wu_eq _ _ _ | refine wu_ne (by omega) ?_) rfl rfl hl.1 rfl (Nat.le_of_ble_eq_true rfl) dX11_digest_147 ⟨Nat.le_of_ble_eq_true rfl, Nat.le_of_ble_eq_true rfl⟩ (fun r147 w147 H locs hp147 hw hS => ?_)
                            obtain ⟨rfl, rfl⟩ := hp147
                            refine xtop (show v_count S (nI b) = cntV S b by rw [v_count, onR_in (by omega) (by omega)]) ?_
                            refine xSl ⟨hx, hb, hml, hown, hts⟩ (kX11_mix l N0 G _ _ _) (va_cwS 2 hts gX11_digest_X11_mix rfl rfl rfl (by decide +kernel) ⟨Nat.le_of_ble_eq_true rfl, Nat.le_of_ble_eq_true rfl⟩) hG hN hw hS rfl hl.1 rfl (Nat.le_of_ble_eq_true rfl) dX11_digest_150 ⟨Nat.le_of_ble_eq_true rfl, Nat.le_of_ble_eq_true rfl⟩ (fun r150 w150 H locs hp150 hw hS => ?_)
                            obtain ⟨rfl, rfl⟩ := hp150
                            refine xlstore_n hx hb dX11_digest_153 hl (by decide) rfl (fun ls hl => ?_)
                            first | refine xiincN hx hb 1 dX11_digest_154 hl rfl (by decide) (by decide) rfl (fun ls hl => ?_) | refine xiinc hx hb dX11_digest_154 hl rfl rfl (by decide) rfl (fun ls hl => ?_)
                            refine lv_goto (tgt := 138) hx hb dX11_digest_157 (by decide) ?_
                            exact ih138 (b + 1) _ _ _ _ (by omega) (by omega) hw hS hl
                      exact loop138 10 0 _ _ _ _ (by omega) (by omega) hw hS hl
                    · skip
                      refine xlload_n hx hb dX11_digest_117 hl rfl ?_
                      refine xaload_n hx hb dX11_digest_118 hl rfl ?_
                      refine xget (C := RX11) (T := TX11) (N := 9) hx hb (ci := 11) hts hiX11 hown hG hw (by repeat first | assumption | exact wu_eq _ _ _ | refine wu_ne (by omega) ?_) rfl 0 (by decide) hlnk3 (fun _ h9 => h9) rfl dX11_digest_119 ?_
                      refine xiload_n hx hb dX11_digest_122 hl rfl ?_
                      refine xVi ⟨hx, hb, hml, hown, hts⟩ (kX5_codeAt l N0 G _ _ _ hPg a (by omega)) (cwV 1 hts gX11_digest_X5_codeAt rfl rfl rfl (by decide +kernel) ⟨Nat.le_of_ble_eq_true rfl, Nat.le_of_ble_eq_true rfl⟩) hG hN hw hS (ci := 5) (by repeat first | assumption | exact wu_eq _ _ _ | refine wu_ne (by omega) ?_) rfl rfl hl.1 rfl (Nat.le_of_ble_eq_true rfl) dX11_digest_123 ⟨Nat.le_of_ble_eq_true rfl, Nat.le_of_ble_eq_true rfl⟩ (fun r123 w123 H locs hp123 hw hS => ?_)
                      obtain ⟨rfl, rfl⟩ := hp123
                      refine xSl ⟨hx, hb, hml, hown, hts⟩ (kX11_mix l N0 G _ _ _) (va_cwS 2 hts gX11_digest_X11_mix rfl rfl rfl (by decide +kernel) ⟨Nat.le_of_ble_eq_true rfl, Nat.le_of_ble_eq_true rfl⟩) hG hN hw hS rfl hl.1 rfl (Nat.le_of_ble_eq_true rfl) dX11_digest_126 ⟨Nat.le_of_ble_eq_true rfl, Nat.le_of_ble_eq_true rfl⟩ (fun r126 w126 H locs hp126 hw hS => ?_)
                      obtain ⟨rfl, rfl⟩ := hp126
                      refine xlstore_n hx hb dX11_digest_129 hl (by decide) rfl (fun ls hl => ?_)
                      first | refine xiincN hx hb 1 dX11_digest_130 hl rfl (by decide) (by decide) rfl (fun ls hl => ?_) | refine xiinc hx hb dX11_digest_130 hl rfl rfl (by decide) rfl (fun ls hl => ?_)
                      refine lv_goto (tgt := 106) hx hb dX11_digest_133 (by decide) ?_
                      exact ih106 (a + 1) _ _ _ _ (by omega) (by omega) hw hS hl
                have hl : lh ls 5 [some (.ref x0), some (.long (dg2v S)), none, some (.int (nI 0)), u] := by rw [h2e]; exact hl
                exact loop106 ((sg S).length + 1) 0 _ _ _ _ (by omega) (by omega) hw hS hl
            · skip
              refine lv_iconst (v := nI 0) hx hb dX11_digest_43 (by decide) ?_
              refine xistore hx hb dX11_digest_44 hl (by decide) rfl (fun ls hl => ?_)
              have loop46 : ∀ (nf : Nat) (k : Nat) (H : Heap) (locs : List Loc) (ls : Array Slot), 3 - k < nf → (k ≤ 3) → PW N0 G w1 H → va_S (fun q => N0 ≤ q) s.heap H locs → lh ls 5 [some (.ref x0), some (.long (mxs (deedV S j) (digDs S (digPs S 967 (sn S)) j) k)), none, some (.int (nI j)), some (.int (nI k))] → W p l e (rmD 14) s m ([.ref x0] : List Value).toArray below meth c H locs 0 0 (MQ below (XQ N0 G vL (fun r w1 => v_digest S = r ∧ RLQ G w1 x0 Z S ∧ Out w w1 x0 (x0 + 52))) ([.ref x0] : List Value).toArray s 0 0 (fun q => N0 ≤ q)) (F0 m 46 ls []) := by
                intro nf
                induction nf with
                | zero => intros; omega
                | succ nf ih46 =>
                  intro k H locs ls hnf hk hw hS hl
                  refine xiload hx hb dX11_digest_46 hl rfl ?_
                  refine lv_iconst (v := nI 2) hx hb dX11_digest_48 (by decide) ?_
                  first | refine xcmp_gt (tgt := 70) hx hb dX11_digest_49 (by decide) (by omega) (by omega) (fun c49 => ?_) (fun c49 => ?_) | refine lv_icmp_gt (tgt := 70) hx hb dX11_digest_49 (by decide) (fun c49 => ?_) (fun c49 => ?_)
                  · skip
                    obtain rfl : k = 3 := by omega
                    first | refine xiincN hx hb 1 dX11_digest_70 hl rfl (by decide) (by decide) rfl (fun ls hl => ?_) | refine xiinc hx hb dX11_digest_70 hl rfl rfl (by decide) rfl (fun ls hl => ?_)
                    refine lv_goto (tgt := 32) hx hb dX11_digest_73 (by decide) ?_
                    exact ih32 (j + 1) _ _ _ _ (by omega) (by omega) hw hS hl
                  · skip
                    refine xlload_n hx hb dX11_digest_52 hl rfl ?_
                    refine xaload_n hx hb dX11_digest_53 hl rfl ?_
                    refine xiload_n hx hb dX11_digest_54 hl rfl ?_
                    refine xiload hx hb dX11_digest_55 hl rfl ?_
                    refine xVi ⟨hx, hb, hml, hown, hts⟩ (kX11_deed l N0 G _ _ Z S hR1 hW hZx _ _) (cwV 2 hts gX11_digest_X11_deed rfl rfl rfl (by decide +kernel) ⟨Nat.le_of_ble_eq_true rfl, Nat.le_of_ble_eq_true rfl⟩) hG hN hw hS (ci := 11) (by repeat first | assumption | exact wu_eq _ _ _ | refine wu_ne (by omega) ?_) rfl rfl hl.1 rfl (Nat.le_of_ble_eq_true rfl) dX11_digest_57 ⟨Nat.le_of_ble_eq_true rfl, Nat.le_of_ble_eq_true rfl⟩ (fun r57 w57 H locs hp57 hw hS => ?_)
                    obtain ⟨rfl, rfl⟩ := hp57
                    refine xtop (show v_deed S (nI j) (nI k) = deedV S j k by rw [v_deed, onR_in (by omega) (by omega), onR_in (by omega) (by omega)]) ?_
                    refine xSl ⟨hx, hb, hml, hown, hts⟩ (kX11_mix l N0 G _ _ _) (va_cwS 2 hts gX11_digest_X11_mix rfl rfl rfl (by decide +kernel) ⟨Nat.le_of_ble_eq_true rfl, Nat.le_of_ble_eq_true rfl⟩) hG hN hw hS rfl hl.1 rfl (Nat.le_of_ble_eq_true rfl) dX11_digest_60 ⟨Nat.le_of_ble_eq_true rfl, Nat.le_of_ble_eq_true rfl⟩ (fun r60 w60 H locs hp60 hw hS => ?_)
                    obtain ⟨rfl, rfl⟩ := hp60
                    refine xlstore_n hx hb dX11_digest_63 hl (by decide) rfl (fun ls hl => ?_)
                    first | refine xiincN hx hb 1 dX11_digest_64 hl rfl (by decide) (by decide) rfl (fun ls hl => ?_) | refine xiinc hx hb dX11_digest_64 hl rfl rfl (by decide) rfl (fun ls hl => ?_)
                    refine lv_goto (tgt := 46) hx hb dX11_digest_67 (by decide) ?_
                    exact ih46 (k + 1) _ _ _ (by omega) (by omega) hw hS hl
              exact loop46 4 0 _ _ _ (by omega) (by omega) hw hS hl
        exact loop32 ((sd S).length + 1) 0 none _ _ _ (by omega) (by omega) hw hS hl
      · skip
        refine xaload_n hx hb dX11_digest_17 hl rfl ?_
        refine xlload_n hx hb dX11_digest_18 hl rfl ?_
        refine xiload_n hx hb dX11_digest_19 hl rfl ?_
        refine xVl ⟨hx, hb, hml, hown, hts⟩ (kX11_mixPerson l N0 G _ _ Z S hR1 hW hZx _ i (by omega)) (cwV 2 hts gX11_digest_X11_mixPerson rfl rfl rfl (by decide +kernel) ⟨Nat.le_of_ble_eq_true rfl, Nat.le_of_ble_eq_true rfl⟩) hG hN hw hS (ci := 11) (by repeat first | assumption | exact wu_eq _ _ _ | refine wu_ne (by omega) ?_) rfl rfl hl.1 rfl (Nat.le_of_ble_eq_true rfl) dX11_digest_20 ⟨Nat.le_of_ble_eq_true rfl, Nat.le_of_ble_eq_true rfl⟩ (fun r20 w20 H locs hp20 hw hS => ?_)
        obtain ⟨rfl, hR2, hO2⟩ := hp20
        refine xlstore_n hx hb dX11_digest_23 hl (by decide) rfl (fun ls hl => ?_)
        first | refine xiincN hx hb 1 dX11_digest_24 hl rfl (by decide) (by decide) rfl (fun ls hl => ?_) | refine xiinc hx hb dX11_digest_24 hl rfl rfl (by decide) rfl (fun ls hl => ?_)
        refine lv_goto (tgt := 6) hx hb dX11_digest_27 (by decide) ?_
        exact ih6 (i + 1) _ _ _ _ (by omega) (by omega) hR2 (hO1.tr hO2 (Nat.le_refl _) (Nat.le_refl _)) hw hS hl
  exact loop6 (sn S + 1) 0 _ _ _ _ (by omega) (by omega) hR Out.rf hw hS hl
