theorem sign_0 {S : QS} {i k : Nat} (hi : i < sn S) (hi31 : i < 2 ^ 31) (hk : k = 0) : o_sign S (nI i) (nI k) = (-102, S) := by
  rw [o_sign, onR_in hi hi31, onR_in (by omega) (by omega)]
  exact if_pos hk
theorem sign_n {S : QS} {i k : Nat} (hi : i < sn S) (hi31 : i < 2 ^ 31) (hk : k < 10) (hk31 : k < 2 ^ 31) (h0 : k ≠ 0) (hb : bnd (sP S) (sL S) ((sB S).1 i) = 0) : o_sign S (nI i) (nI k) = (-103, S) := by
  rw [o_sign, onR_in hi hi31, onR_in hk hk31]
  exact (if_neg h0).trans (if_pos hb)
theorem sign_f {S : QS} {i k : Nat} (hi : i < sn S) (hi31 : i < 2 ^ 31) (hk : k < 10) (hk31 : k < 2 ^ 31) (h0 : k ≠ 0) (hb : bnd (sP S) (sL S) ((sB S).1 i) ≠ 0) (hl : 6 ≤ (sd S).length) : o_sign S (nI i) (nI k) = (-104, S) := by
  rw [o_sign, onR_in hi hi31, onR_in hk hk31]
  exact (if_neg h0).trans ((if_neg hb).trans (if_pos hl))
theorem sign_y {S : QS} {i k : Nat} (hi : i < sn S) (hi31 : i < 2 ^ 31) (hk : k < 10) (hk31 : k < 2 ^ 31) (h0 : k ≠ 0) (hb : bnd (sP S) (sL S) ((sB S).1 i) ≠ 0) (hl : (sd S).length < 6) : o_sign S (nI i) (nI k) = (nI (sd S).length, stB S ((sB S).1, sd S ++ [(k, bnd (sP S) (sL S) (sp S i))], sh S)) := by
  rw [o_sign, onR_in hi hi31, onR_in hk hk31]
  exact (if_neg h0).trans ((if_neg hb).trans (if_neg (Nat.not_le.mpr hl)))
theorem free_n {S : QS} {i k : Nat} (hi : i < (sd S).length) (hi31 : i < 2 ^ 31) (hk : k < sn S) (hk31 : k < 2 ^ 31) (h : (bd (sB S).2.1 i).testBit k = false) : o_free S (nI i) (nI k) = (-103, S) := by
  rw [o_free, onR_in hi hi31, onR_in hk hk31]
  exact if_neg (fun z => absurd (z.symm.trans h) (by decide))
theorem free_y {S : QS} {i k : Nat} (hi : i < (sd S).length) (hi31 : i < 2 ^ 31) (hk : k < sn S) (hk31 : k < 2 ^ 31) (h : (bd (sB S).2.1 i).testBit k = true) : o_free S (nI i) (nI k) = (nI (pcN (clr (bd (sd S) i) k)), stB S ((sB S).1, (sd S).set i (dbt (sd S) i, clr (bd (sd S) i) k), sh S)) := by
  rw [o_free, onR_in hi hi31, onR_in hk hk31]
  exact if_pos h
theorem hear_cases (S : QS) (x : Int32) : (∃ i, i < sn S ∧ i < 2 ^ 31 ∧ (sh S).length < 6 ∧ x = nI i) ∨ (∃ i, i < sn S ∧ i < 2 ^ 31 ∧ 6 ≤ (sh S).length ∧ x = nI i) ∨ ¬ inR x (sn S) := by
  rcases inR_or x (sn S) with ⟨i, h1, h2, rfl⟩ | h
  · rcases Nat.lt_or_ge (sh S).length 6 with z | z
    · exact Or.inl ⟨i, h1, h2, z, rfl⟩
    · exact Or.inr (Or.inl ⟨i, h1, h2, z, rfl⟩)
  · exact Or.inr (Or.inr h)
theorem hear_y {S : QS} {i : Nat} {v : Bool} (hi : i < sn S) (hi31 : i < 2 ^ 31) (hl : (sh S).length < 6) : o_hear S (nI i) v = (nI ((sh S).length + 1), stB S ((sB S).1, sd S, sh S ++ [(i, v)])) := by
  rw [o_hear, onR_in hi hi31]
  exact if_neg (Nat.not_le.mpr hl)
theorem hear_f {S : QS} {i : Nat} {v : Bool} (hi : i < sn S) (hi31 : i < 2 ^ 31) (hl : 6 ≤ (sh S).length) : o_hear S (nI i) v = (-104, S) := by
  rw [o_hear, onR_in hi hi31]
  exact if_pos hl
theorem rest_n {S : QS} (h : (sI S).isSome = false) : o_restore S = (-103, S) := by
  unfold o_restore
  cases hq : sI S with
  | none => rfl
  | some B => rw [hq] at h; cases h
theorem rest_y {S : QS} {B : Bk} (h : sI S = some B) : o_restore S = (nI (lentN B (sn S)), stB S B) := by
  unfold o_restore
  rw [h]
theorem owe_le {ds : List (Nat × Nat)} {q : Nat} (h : ∀ i, i < ds.length → dbt ds i ≤ 9 ∧ bd ds i < 32) : ∀ n, n ≤ ds.length → oweN ds q n ≤ n * 540
  | 0, _ => Nat.le_refl 0
  | n + 1, hn => by
    rw [oweN_s]
    have h1 := owe_le (q := q) h n (by omega)
    have h2 := h n (by omega)
    have h3 : 60 * dbt ds n / pcN (bd ds n) ≤ 540 := Nat.le_trans (Nat.div_le_self _ _) (Nat.mul_le_mul_left 60 h2.1)
    have h4 : (if (bd ds n).testBit q = true then 60 * dbt ds n / pcN (bd ds n) else 0) ≤ 540 := by
      by_cases hb : (bd ds n).testBit q = true
      · rw [if_pos hb]; omega
      · rw [if_neg hb]; omega
    revert h4
    generalize (if (bd ds n).testBit q = true then 60 * dbt ds n / pcN (bd ds n) else 0) = z
    intro h4
    omega
theorem owe_lt {ds : List (Nat × Nat)} {q : Nat} (h : ∀ i, i < ds.length → dbt ds i ≤ 9 ∧ bd ds i < 32) (h6 : ds.length ≤ 6) : oweN ds q ds.length < 100000 := by
  have := owe_le (q := q) h ds.length (Nat.le_refl _)
  omega
theorem way_f {S : QS} {i k t : Nat} (hi : i < sn S) (hi31 : i < 2 ^ 31) (hk : k < 2 ^ sn S) (hk31 : k < 2 ^ 31) (ht : t < 2) (ht31 : t < 2 ^ 31) (h : 40 ≤ sA S) : o_way S (nI i) (nI k) (nI t) = (-103, S) := by
  rw [o_way, onR_in hi hi31, onR_in hk hk31, onR_in ht ht31]
  exact if_pos h
theorem way_y {S : QS} {i k t : Nat} (hi : i < sn S) (hi31 : i < 2 ^ 31) (hk : k < 2 ^ sn S) (hk31 : k < 2 ^ 31) (ht : t < 2) (ht31 : t < 2 ^ 31) (h : ¬ 40 ≤ sA S) : o_way S (nI i) (nI k) (nI t) = (wayV S i k t, (S.1, S.2.1, S.2.2.1, S.2.2.2.1, S.2.2.2.2.1, S.2.2.2.2.2.1, sA S + 1)) := by
  rw [o_way, onR_in hi hi31, onR_in hk hk31, onR_in ht ht31]
  exact if_neg h
set_option maxHeartbeats 4000000 in
set_option maxRecDepth 100000 in
theorem kX11_sign (l : Launch) (N0 : Nat) (G : XG) (w : Wd) (x0 Z : Nat) (S : QS) (hR : RLQ G w x0 Z S) (hW : WF S) (hZx : x0 + 52 ≤ Z) (x y : Int32) : XM l yX11_sign wsX11_sign (rmD 5) N0 G [.ref x0, .int x, .int y] w vI (fun r w1 => (o_sign S x y).1 = r ∧ RLQ G w1 x0 Z (o_sign S x y).2 ∧ Out w w1 x0 (x0 + 52)) 0 0 := by
  refine XM.of (cc := cX11_sign) (maxL := 6) (ret := (some .int)) (by decide) rfl (Nat.le_of_ble_eq_true rfl) ?_
  intro p e s m below meth c hx hb hr hlk hin0 hml hown hts hN hw hG hS ls hl
  have hown : s.vm.findClass RX11 = some m.cls := hown
  have hiX11 : ∀ x ∈ u_ws RX11 TX11 9, x ∈ wsX11_sign := by decide +kernel
  have hlnk0 := hts (.fieldLink RX11 19 "LentQuill" "town" "LLentQuill$Town;") (by decide +kernel)
  have hlnk1 := hts (.fieldLink RX11 26 "LentQuill" "books" "LLentQuill$Books;") (by decide +kernel)
  have hl : lh ls 6 [some (.ref x0), some (.int x), some (.int y), none, none, none] := hl
  obtain ⟨hx0, hPg, hTn, hBk, ⟨Bi, hBi, hBie⟩, ⟨hs, Ts, fw, fr, hSr⟩, ⟨dsF, hdF, F, hFr⟩⟩ := id hR
  obtain ⟨h5, hlim⟩ := hTn.five
  have hsn : sn S = (sP S).length := rfl
  have hpgc := hPg.cell
  have htnc := hTn.cell
  have hbkc := hBk.cell
  have hbic := hBi.cell
  have hsrc := hSr.cell
  have hfrc := hFr.1
  obtain ⟨hd6, hh6, hdw⟩ := hBk.six
  have hsd : (sd S).length = (sB S).2.1.length := rfl
  have hsh : (sh S).length = (sB S).2.2.length := rfl
  rcases inR_or x (sn S) with ⟨i, hi, hi31, rfl⟩ | hx1 <;> rcases inR_or y 10 with ⟨k, hk, hk31, rfl⟩ | hy1
  · skip
    have hpi := hBk.pen (i := i) (by omega)
    have hpic := hpi.cell
    have hali : ∀ x ∈ (sB S).1 i, x < (sP S).length := hW.1.1 i hi
    obtain ⟨hl0, hl41⟩ := hpi.len
    have hb32 := bnd32 (lim := sL S) hali h5
    refine xaload_n hx hb dX11_sign_0 hl rfl ?_
    refine xiload_n hx hb dX11_sign_1 hl rfl ?_
    refine xVr ⟨hx, hb, hml, hown, hts⟩ (kX11_penOf l N0 G _ _ Z S hR hW hZx i hi) (cwV 1 hts gX11_sign_X11_penOf rfl rfl rfl (by decide +kernel) ⟨Nat.le_of_ble_eq_true rfl, Nat.le_of_ble_eq_true rfl⟩) hG hN hw hS (ci := 11) (by repeat first | assumption | exact wu_eq _ _ _ | refine wu_ne (by omega) ?_) rfl rfl hl.1 rfl (Nat.le_of_ble_eq_true rfl) dX11_sign_2 ⟨Nat.le_of_ble_eq_true rfl, Nat.le_of_ble_eq_true rfl⟩ (fun r2 w2 H locs hp2 hw hS => ?_)
    obtain ⟨rfl, rfl⟩ := hp2
    refine xrf rfl ?_
    first | refine xastore_n hx hb dX11_sign_5 hl (by decide) rfl (fun ls hl => ?_) | refine xastore_nN hx hb dX11_sign_5 hl (by decide) rfl (fun ls hl => ?_)
    refine xaload_n hx hb dX11_sign_6 hl rfl ?_
    refine lv_ifnonnull (tgt := 13) hx hb dX11_sign_7 (by decide) ?_
    refine xiload_n hx hb dX11_sign_13 hl rfl ?_
    refine lv_iconst (v := nI 1) hx hb dX11_sign_14 (by decide) ?_
    first | refine xcmp_lt (tgt := 24) hx hb dX11_sign_15 (by decide) (by omega) (by omega) (fun c15 => ?_) (fun c15 => ?_) | refine lv_icmp_lt (tgt := 24) hx hb dX11_sign_15 (by decide) (fun c15 => ?_) (fun c15 => ?_)
    · skip
      refine lv_bipush (v := -102) hx hb dX11_sign_24 (by decide) ?_
      exact xiret hx hb hr hlk hw hS dX11_sign_26 ⟨by rw [sign_0 hi hi31 (by omega)], by rw [sign_0 hi hi31 (by omega)]; exact hR, Out.rf⟩
    · skip
      refine xiload_n hx hb dX11_sign_18 hl rfl ?_
      refine lv_bipush (v := nI 9) hx hb dX11_sign_19 (by decide) ?_
      first | refine xcmp_le (tgt := 27) hx hb dX11_sign_21 (by decide) (by omega) (by omega) (fun c21 => ?_) (fun c21 => ?_) | refine lv_icmp_le (tgt := 27) hx hb dX11_sign_21 (by decide) (fun c21 => ?_) (fun c21 => ?_)
      · skip
        refine xaload_n hx hb dX11_sign_27 hl rfl ?_
        refine xget (C := RX11) (T := TX11) (N := 9) hx hb (ci := 11) hts hiX11 hown hG hw (by repeat first | assumption | exact wu_eq _ _ _ | refine wu_ne (by omega) ?_) rfl 1 (by decide) hlnk0 (fun _ h9 => h9) rfl dX11_sign_28 ?_
        refine xaload_n hx hb dX11_sign_31 hl rfl ?_
        refine xVi ⟨hx, hb, hml, hown, hts⟩ (kX10_boundBy l N0 G _ _ Z _ _ hTn _ _ hpi hali) (cwV 1 hts gX11_sign_X10_boundBy rfl rfl rfl (by decide +kernel) ⟨Nat.le_of_ble_eq_true rfl, Nat.le_of_ble_eq_true rfl⟩) hG hN hw hS (ci := 10) (by repeat first | assumption | exact wu_eq _ _ _ | refine wu_ne (by omega) ?_) rfl rfl hl.1 rfl (Nat.le_of_ble_eq_true rfl) dX11_sign_32 ⟨Nat.le_of_ble_eq_true rfl, Nat.le_of_ble_eq_true rfl⟩ (fun r32 w32 H locs hp32 hw hS => ?_)
        obtain ⟨rfl, rfl⟩ := hp32
        refine xistore hx hb dX11_sign_35 hl (by decide) rfl (fun ls hl => ?_)
        refine xiload hx hb dX11_sign_37 hl rfl ?_
        first | refine xifb_ne (tgt := 45) hx hb dX11_sign_39 (by decide) (fun c39 => ?_) (fun c39 => ?_) | refine xif_ne (tgt := 45) hx hb dX11_sign_39 (by decide) (by omega) (fun c39 => ?_) (fun c39 => ?_) | refine lv_if_ne (tgt := 45) hx hb dX11_sign_39 (by decide) (fun c39 => ?_) (fun c39 => ?_)
        · skip
          refine xaload_n hx hb dX11_sign_45 hl rfl ?_
          refine xget (C := RX11) (T := TX11) (N := 9) hx hb (ci := 11) hts hiX11 hown hG hw (by repeat first | assumption | exact wu_eq _ _ _ | refine wu_ne (by omega) ?_) rfl 2 (by decide) hlnk1 (fun _ h9 => h9) rfl dX11_sign_46 ?_
          refine xVi ⟨hx, hb, hml, hown, hts⟩ (kX2_deeds l N0 G _ _ _ _ _ hBk) (cwV 0 hts gX11_sign_X2_deeds rfl rfl rfl (by decide +kernel) ⟨Nat.le_of_ble_eq_true rfl, Nat.le_of_ble_eq_true rfl⟩) hG hN hw hS (ci := 2) (by repeat first | assumption | exact wu_eq _ _ _ | refine wu_ne (by omega) ?_) rfl rfl hl.1 rfl (Nat.le_of_ble_eq_true rfl) dX11_sign_49 ⟨Nat.le_of_ble_eq_true rfl, Nat.le_of_ble_eq_true rfl⟩ (fun r49 w49 H locs hp49 hw hS => ?_)
          obtain ⟨rfl, rfl⟩ := hp49
          refine xistore hx hb dX11_sign_52 hl (by decide) rfl (fun ls hl => ?_)
          refine xaload_n hx hb dX11_sign_54 hl rfl ?_
          refine xget (C := RX11) (T := TX11) (N := 9) hx hb (ci := 11) hts hiX11 hown hG hw (by repeat first | assumption | exact wu_eq _ _ _ | refine wu_ne (by omega) ?_) rfl 2 (by decide) hlnk1 (fun _ h9 => h9) rfl dX11_sign_55 ?_
          refine xiload_n hx hb dX11_sign_58 hl rfl ?_
          refine xiload hx hb dX11_sign_59 hl rfl ?_
          rcases Nat.lt_or_ge (sd S).length 6 with hlt | hlt
          · skip
            refine xVi ⟨hx, hb, hml, hown, hts⟩ (kX2_addDeed l N0 G w _ _ _ _ hBk k _ (by omega) hb32 hlt) (cwV 2 hts gX11_sign_X2_addDeed rfl rfl rfl (by decide +kernel) ⟨Nat.le_of_ble_eq_true rfl, Nat.le_of_ble_eq_true rfl⟩) hG hN hw hS (ci := 2) hbkc rfl rfl hl.1 rfl (Nat.le_of_ble_eq_true rfl) dX11_sign_61 ⟨Nat.le_of_ble_eq_true rfl, Nat.le_of_ble_eq_true rfl⟩ (fun r61 w61 H locs hp61 hw hS => ?_)
            obtain ⟨rfl, hB2, hO2⟩ := hp61
            refine xifb_eq (tgt := 72) hx hb dX11_sign_64 (by decide) (fun c64 => ?_) (fun c64 => ?_)
            · cases c64
            refine xiload hx hb dX11_sign_67 hl rfl ?_
            refine lv_goto (tgt := 74) hx hb dX11_sign_69 (by decide) ?_
            exact xiret hx hb hr hlk hw hS dX11_sign_74 ⟨by rw [sign_y hi hi31 hk hk31 (by omega) c39 hlt]; rfl, by rw [sign_y hi hi31 hk hk31 (by omega) c39 hlt]; exact hR.bks (hO2.mono (by omega) (by omega)) hB2 hZx, hO2.mono (by omega) (by omega)⟩
          · skip
            refine xVi ⟨hx, hb, hml, hown, hts⟩ (kX2_addDeed_full l N0 G w _ _ _ _ hBk k _ hlt) (cwV 2 hts gX11_sign_X2_addDeed rfl rfl rfl (by decide +kernel) ⟨Nat.le_of_ble_eq_true rfl, Nat.le_of_ble_eq_true rfl⟩) hG hN hw hS (ci := 2) hbkc rfl rfl hl.1 rfl (Nat.le_of_ble_eq_true rfl) dX11_sign_61 ⟨Nat.le_of_ble_eq_true rfl, Nat.le_of_ble_eq_true rfl⟩ (fun r61 w61 H locs hp61 hw hS => ?_)
            obtain ⟨rfl, rfl⟩ := hp61
            refine xifb_eq (tgt := 72) hx hb dX11_sign_64 (by decide) (fun c64 => ?_) (fun c64 => ?_)
            · refine lv_bipush (v := -104) hx hb dX11_sign_72 (by decide) ?_
              exact xiret hx hb hr hlk hw hS dX11_sign_74 ⟨by rw [sign_f hi hi31 hk hk31 (by omega) c39 hlt], by rw [sign_f hi hi31 hk hk31 (by omega) c39 hlt]; exact hR, Out.rf⟩
            cases c64
        · skip
          refine lv_bipush (v := -103) hx hb dX11_sign_42 (by decide) ?_
          exact xiret hx hb hr hlk hw hS dX11_sign_44 ⟨by rw [sign_n hi hi31 hk hk31 (by omega) c39], by rw [sign_n hi hi31 hk hk31 (by omega) c39]; exact hR, Out.rf⟩
      · skip
        exfalso
        omega
  · skip
    refine xaload_n hx hb dX11_sign_0 hl rfl ?_
    refine xiload_n hx hb dX11_sign_1 hl rfl ?_
    refine xVr ⟨hx, hb, hml, hown, hts⟩ (kX11_penOf l N0 G _ _ Z S hR hW hZx i hi) (cwV 1 hts gX11_sign_X11_penOf rfl rfl rfl (by decide +kernel) ⟨Nat.le_of_ble_eq_true rfl, Nat.le_of_ble_eq_true rfl⟩) hG hN hw hS (ci := 11) (by repeat first | assumption | exact wu_eq _ _ _ | refine wu_ne (by omega) ?_) rfl rfl hl.1 rfl (Nat.le_of_ble_eq_true rfl) dX11_sign_2 ⟨Nat.le_of_ble_eq_true rfl, Nat.le_of_ble_eq_true rfl⟩ (fun r2 w2 H locs hp2 hw hS => ?_)
    obtain ⟨rfl, rfl⟩ := hp2
    refine xrf rfl ?_
    first | refine xastore_n hx hb dX11_sign_5 hl (by decide) rfl (fun ls hl => ?_) | refine xastore_nN hx hb dX11_sign_5 hl (by decide) rfl (fun ls hl => ?_)
    refine xaload_n hx hb dX11_sign_6 hl rfl ?_
    refine lv_ifnonnull (tgt := 13) hx hb dX11_sign_7 (by decide) ?_
    refine xiload_n hx hb dX11_sign_13 hl rfl ?_
    refine lv_iconst (v := nI 1) hx hb dX11_sign_14 (by decide) ?_
    refine lv_icmp_lt (tgt := 24) hx hb dX11_sign_15 (by decide) (fun c15 => ?_) (fun c15 => ?_)
    · skip
      refine lv_bipush (v := -102) hx hb dX11_sign_24 (by decide) ?_
      exact xiret hx hb hr hlk hw hS dX11_sign_26 ⟨by rw [o_sign, onR_in hi hi31, onR_out hy1], by rw [o_sign, onR_in hi hi31, onR_out hy1]; exact hR, Out.rf⟩
    · skip
      refine xiload_n hx hb dX11_sign_18 hl rfl ?_
      refine lv_bipush (v := nI 9) hx hb dX11_sign_19 (by decide) ?_
      refine lv_icmp_le (tgt := 27) hx hb dX11_sign_21 (by decide) (fun c21 => ?_) (fun c21 => ?_)
      · skip
        exfalso
        exact hy1 (rawin c15 c21 (by omega) (by omega))
      · skip
        refine lv_bipush (v := -102) hx hb dX11_sign_24 (by decide) ?_
        exact xiret hx hb hr hlk hw hS dX11_sign_26 ⟨by rw [o_sign, onR_in hi hi31, onR_out hy1], by rw [o_sign, onR_in hi hi31, onR_out hy1]; exact hR, Out.rf⟩
  · skip
    refine xaload_n hx hb dX11_sign_0 hl rfl ?_
    refine xiload_n hx hb dX11_sign_1 hl rfl ?_
    refine xVr ⟨hx, hb, hml, hown, hts⟩ (kX11_penOf_out l N0 G _ _ Z S hR hW hZx _ hx1) (cwV 1 hts gX11_sign_X11_penOf rfl rfl rfl (by decide +kernel) ⟨Nat.le_of_ble_eq_true rfl, Nat.le_of_ble_eq_true rfl⟩) hG hN hw hS (ci := 11) (by repeat first | assumption | exact wu_eq _ _ _ | refine wu_ne (by omega) ?_) rfl rfl hl.1 rfl (Nat.le_of_ble_eq_true rfl) dX11_sign_2 ⟨Nat.le_of_ble_eq_true rfl, Nat.le_of_ble_eq_true rfl⟩ (fun r2 w2 H locs hp2 hw hS => ?_)
    obtain ⟨rfl, rfl⟩ := hp2
    refine xrn rfl ?_
    first | refine xastore_n hx hb dX11_sign_5 hl (by decide) rfl (fun ls hl => ?_) | refine xastore_nN hx hb dX11_sign_5 hl (by decide) rfl (fun ls hl => ?_)
    refine xaload_nN hx hb dX11_sign_6 hl rfl ?_
    refine lv_ifnonnullN hx hb dX11_sign_7 ?_
    refine lv_bipush (v := -101) hx hb dX11_sign_10 (by decide) ?_
    exact xiret hx hb hr hlk hw hS dX11_sign_12 ⟨by rw [o_sign, onR_out hx1], by rw [o_sign, onR_out hx1]; exact hR, Out.rf⟩
  · skip
    refine xaload_n hx hb dX11_sign_0 hl rfl ?_
    refine xiload_n hx hb dX11_sign_1 hl rfl ?_
    refine xVr ⟨hx, hb, hml, hown, hts⟩ (kX11_penOf_out l N0 G _ _ Z S hR hW hZx _ hx1) (cwV 1 hts gX11_sign_X11_penOf rfl rfl rfl (by decide +kernel) ⟨Nat.le_of_ble_eq_true rfl, Nat.le_of_ble_eq_true rfl⟩) hG hN hw hS (ci := 11) (by repeat first | assumption | exact wu_eq _ _ _ | refine wu_ne (by omega) ?_) rfl rfl hl.1 rfl (Nat.le_of_ble_eq_true rfl) dX11_sign_2 ⟨Nat.le_of_ble_eq_true rfl, Nat.le_of_ble_eq_true rfl⟩ (fun r2 w2 H locs hp2 hw hS => ?_)
    obtain ⟨rfl, rfl⟩ := hp2
    refine xrn rfl ?_
    first | refine xastore_n hx hb dX11_sign_5 hl (by decide) rfl (fun ls hl => ?_) | refine xastore_nN hx hb dX11_sign_5 hl (by decide) rfl (fun ls hl => ?_)
    refine xaload_nN hx hb dX11_sign_6 hl rfl ?_
    refine lv_ifnonnullN hx hb dX11_sign_7 ?_
    refine lv_bipush (v := -101) hx hb dX11_sign_10 (by decide) ?_
    exact xiret hx hb hr hlk hw hS dX11_sign_12 ⟨by rw [o_sign, onR_out hx1], by rw [o_sign, onR_out hx1]; exact hR, Out.rf⟩
set_option maxHeartbeats 4000000 in
set_option maxRecDepth 100000 in
theorem kX11_deed (l : Launch) (N0 : Nat) (G : XG) (w : Wd) (x0 Z : Nat) (S : QS) (hR : RLQ G w x0 Z S) (hW : WF S) (hZx : x0 + 52 ≤ Z) (x y : Int32) : XM l yX11_deed wsX11_deed (rmD 5) N0 G [.ref x0, .int x, .int y] w vI (fun r w1 => v_deed S x y = r ∧ w = w1) 0 0 := by
  refine XM.of (cc := cX11_deed) (maxL := 3) (ret := (some .int)) (by decide) rfl (Nat.le_of_ble_eq_true rfl) ?_
  intro p e s m below meth c hx hb hr hlk hin0 hml hown hts hN hw hG hS ls hl
  have hown : s.vm.findClass RX11 = some m.cls := hown
  have hiX11 : ∀ x ∈ u_ws RX11 TX11 9, x ∈ wsX11_deed := by decide +kernel
  have hlnk0 := hts (.fieldLink RX11 26 "LentQuill" "books" "LLentQuill$Books;") (by decide +kernel)
  have hlnk1 := hts (.fieldLink RX11 19 "LentQuill" "town" "LLentQuill$Town;") (by decide +kernel)
  have hl : lh ls 3 [some (.ref x0), some (.int x), some (.int y)] := hl
  obtain ⟨hx0, hPg, hTn, hBk, ⟨Bi, hBi, hBie⟩, ⟨hs, Ts, fw, fr, hSr⟩, ⟨dsF, hdF, F, hFr⟩⟩ := id hR
  obtain ⟨h5, hlim⟩ := hTn.five
  have hsn : sn S = (sP S).length := rfl
  have hpgc := hPg.cell
  have htnc := hTn.cell
  have hbkc := hBk.cell
  have hbic := hBi.cell
  have hsrc := hSr.cell
  have hfrc := hFr.1
  obtain ⟨hd6, hh6, hdw⟩ := hBk.six
  have hsd : (sd S).length = (sB S).2.1.length := rfl
  have hsh : (sh S).length = (sB S).2.2.length := rfl
  rcases inR_or x (sd S).length with ⟨i, hi, hi31, rfl⟩ | hx1
  · skip
    refine xaload_n hx hb dX11_deed_0 hl rfl ?_
    refine xget (C := RX11) (T := TX11) (N := 9) hx hb (ci := 11) hts hiX11 hown hG hw (by repeat first | assumption | exact wu_eq _ _ _ | refine wu_ne (by omega) ?_) rfl 2 (by decide) hlnk0 (fun _ h9 => h9) rfl dX11_deed_1 ?_
    refine xiload_n hx hb dX11_deed_4 hl rfl ?_
    refine xVi ⟨hx, hb, hml, hown, hts⟩ (kX2_isDeed l N0 G _ _ _ _ _ hBk i hi) (cwV 1 hts gX11_deed_X2_isDeed rfl rfl rfl (by decide +kernel) ⟨Nat.le_of_ble_eq_true rfl, Nat.le_of_ble_eq_true rfl⟩) hG hN hw hS (ci := 2) (by repeat first | assumption | exact wu_eq _ _ _ | refine wu_ne (by omega) ?_) rfl rfl hl.1 rfl (Nat.le_of_ble_eq_true rfl) dX11_deed_5 ⟨Nat.le_of_ble_eq_true rfl, Nat.le_of_ble_eq_true rfl⟩ (fun r5 w5 H locs hp5 hw hS => ?_)
    obtain ⟨rfl, rfl⟩ := hp5
    first | refine xifb_ne (tgt := 14) hx hb dX11_deed_8 (by decide) (fun c8 => ?_) (fun c8 => ?_) | refine xif_ne (tgt := 14) hx hb dX11_deed_8 (by decide) (by omega) (fun c8 => ?_) (fun c8 => ?_) | refine lv_if_ne (tgt := 14) hx hb dX11_deed_8 (by decide) (fun c8 => ?_) (fun c8 => ?_)
    · skip
      refine xiload_n hx hb dX11_deed_14 hl rfl ?_
      rcases sw3 y with rfl | rfl | rfl | hy1
      · skip
        refine lv_tableIn (off := 25) (tgt := 40) hx hb dX11_deed_15 (by decide) (by decide) (by decide) (by decide) ?_
        refine xaload_n hx hb dX11_deed_40 hl rfl ?_
        refine xget (C := RX11) (T := TX11) (N := 9) hx hb (ci := 11) hts hiX11 hown hG hw (by repeat first | assumption | exact wu_eq _ _ _ | refine wu_ne (by omega) ?_) rfl 2 (by decide) hlnk0 (fun _ h9 => h9) rfl dX11_deed_41 ?_
        refine xiload_n hx hb dX11_deed_44 hl rfl ?_
        refine xVi ⟨hx, hb, hml, hown, hts⟩ (kX2_debtOf l N0 G _ _ _ _ _ hBk i hi) (cwV 1 hts gX11_deed_X2_debtOf rfl rfl rfl (by decide +kernel) ⟨Nat.le_of_ble_eq_true rfl, Nat.le_of_ble_eq_true rfl⟩) hG hN hw hS (ci := 2) (by repeat first | assumption | exact wu_eq _ _ _ | refine wu_ne (by omega) ?_) rfl rfl hl.1 rfl (Nat.le_of_ble_eq_true rfl) dX11_deed_45 ⟨Nat.le_of_ble_eq_true rfl, Nat.le_of_ble_eq_true rfl⟩ (fun r45 w45 H locs hp45 hw hS => ?_)
        obtain ⟨rfl, rfl⟩ := hp45
        exact xiret hx hb hr hlk hw hS dX11_deed_48 ⟨by rw [v_deed, onR_in hi hi31, onR_in (by omega) (by omega)]; rfl, rfl⟩
      · skip
        refine lv_tableIn (off := 34) (tgt := 49) hx hb dX11_deed_15 (by decide) (by decide) (by decide) (by decide) ?_
        refine xaload_n hx hb dX11_deed_49 hl rfl ?_
        refine xget (C := RX11) (T := TX11) (N := 9) hx hb (ci := 11) hts hiX11 hown hG hw (by repeat first | assumption | exact wu_eq _ _ _ | refine wu_ne (by omega) ?_) rfl 2 (by decide) hlnk0 (fun _ h9 => h9) rfl dX11_deed_50 ?_
        refine xiload_n hx hb dX11_deed_53 hl rfl ?_
        refine xVi ⟨hx, hb, hml, hown, hts⟩ (kX2_boundByDeed l N0 G _ _ _ _ _ hBk i hi) (cwV 1 hts gX11_deed_X2_boundByDeed rfl rfl rfl (by decide +kernel) ⟨Nat.le_of_ble_eq_true rfl, Nat.le_of_ble_eq_true rfl⟩) hG hN hw hS (ci := 2) (by repeat first | assumption | exact wu_eq _ _ _ | refine wu_ne (by omega) ?_) rfl rfl hl.1 rfl (Nat.le_of_ble_eq_true rfl) dX11_deed_54 ⟨Nat.le_of_ble_eq_true rfl, Nat.le_of_ble_eq_true rfl⟩ (fun r54 w54 H locs hp54 hw hS => ?_)
        obtain ⟨rfl, rfl⟩ := hp54
        exact xiret hx hb hr hlk hw hS dX11_deed_57 ⟨by rw [v_deed, onR_in hi hi31, onR_in (by omega) (by omega)]; rfl, rfl⟩
      · skip
        refine lv_tableIn (off := 43) (tgt := 58) hx hb dX11_deed_15 (by decide) (by decide) (by decide) (by decide) ?_
        refine xaload_n hx hb dX11_deed_58 hl rfl ?_
        refine xget (C := RX11) (T := TX11) (N := 9) hx hb (ci := 11) hts hiX11 hown hG hw (by repeat first | assumption | exact wu_eq _ _ _ | refine wu_ne (by omega) ?_) rfl 1 (by decide) hlnk1 (fun _ h9 => h9) rfl dX11_deed_59 ?_
        refine xaload_n hx hb dX11_deed_62 hl rfl ?_
        refine xget (C := RX11) (T := TX11) (N := 9) hx hb (ci := 11) hts hiX11 hown hG hw (by repeat first | assumption | exact wu_eq _ _ _ | refine wu_ne (by omega) ?_) rfl 2 (by decide) hlnk0 (fun _ h9 => h9) rfl dX11_deed_63 ?_
        refine xiload_n hx hb dX11_deed_66 hl rfl ?_
        refine xVi ⟨hx, hb, hml, hown, hts⟩ (kX2_boundByDeed l N0 G _ _ _ _ _ hBk i hi) (cwV 1 hts gX11_deed_X2_boundByDeed rfl rfl rfl (by decide +kernel) ⟨Nat.le_of_ble_eq_true rfl, Nat.le_of_ble_eq_true rfl⟩) hG hN hw hS (ci := 2) (by repeat first | assumption | exact wu_eq _ _ _ | refine wu_ne (by omega) ?_) rfl rfl hl.1 rfl (Nat.le_of_ble_eq_true rfl) dX11_deed_67 ⟨Nat.le_of_ble_eq_true rfl, Nat.le_of_ble_eq_true rfl⟩ (fun r67 w67 H locs hp67 hw hS => ?_)
        obtain ⟨rfl, rfl⟩ := hp67
        refine xVi ⟨hx, hb, hml, hown, hts⟩ (kX10_worthOf l N0 G _ _ Z _ _ hTn _ (hdw i hi).2) (cwV 1 hts gX11_deed_X10_worthOf rfl rfl rfl (by decide +kernel) ⟨Nat.le_of_ble_eq_true rfl, Nat.le_of_ble_eq_true rfl⟩) hG hN hw hS (ci := 10) (by repeat first | assumption | exact wu_eq _ _ _ | refine wu_ne (by omega) ?_) rfl rfl hl.1 rfl (Nat.le_of_ble_eq_true rfl) dX11_deed_70 ⟨Nat.le_of_ble_eq_true rfl, Nat.le_of_ble_eq_true rfl⟩ (fun r70 w70 H locs hp70 hw hS => ?_)
        obtain ⟨rfl, rfl⟩ := hp70
        exact xiret hx hb hr hlk hw hS dX11_deed_73 ⟨by rw [v_deed, onR_in hi hi31, onR_in (by omega) (by omega)]; rfl, rfl⟩
      · skip
        refine lv_tableOut (tgt := 74) hx hb dX11_deed_15 (tab_out hy1 (by decide)) (by decide) ?_
        refine lv_bipush (v := -102) hx hb dX11_deed_74 (by decide) ?_
        exact xiret hx hb hr hlk hw hS dX11_deed_76 ⟨by rw [v_deed, onR_in hi hi31, onR_out hy1], rfl⟩
    · skip
      exfalso
      cases c8
  · skip
    refine xaload_n hx hb dX11_deed_0 hl rfl ?_
    refine xget (C := RX11) (T := TX11) (N := 9) hx hb (ci := 11) hts hiX11 hown hG hw (by repeat first | assumption | exact wu_eq _ _ _ | refine wu_ne (by omega) ?_) rfl 2 (by decide) hlnk0 (fun _ h9 => h9) rfl dX11_deed_1 ?_
    refine xiload_n hx hb dX11_deed_4 hl rfl ?_
    refine xVi ⟨hx, hb, hml, hown, hts⟩ (kX2_isDeed_out l N0 G _ _ _ _ _ hBk _ hx1) (cwV 1 hts gX11_deed_X2_isDeed rfl rfl rfl (by decide +kernel) ⟨Nat.le_of_ble_eq_true rfl, Nat.le_of_ble_eq_true rfl⟩) hG hN hw hS (ci := 2) (by repeat first | assumption | exact wu_eq _ _ _ | refine wu_ne (by omega) ?_) rfl rfl hl.1 rfl (Nat.le_of_ble_eq_true rfl) dX11_deed_5 ⟨Nat.le_of_ble_eq_true rfl, Nat.le_of_ble_eq_true rfl⟩ (fun r5 w5 H locs hp5 hw hS => ?_)
    obtain ⟨rfl, rfl⟩ := hp5
    first | refine xifb_ne (tgt := 14) hx hb dX11_deed_8 (by decide) (fun c8 => ?_) (fun c8 => ?_) | refine xif_ne (tgt := 14) hx hb dX11_deed_8 (by decide) (by omega) (fun c8 => ?_) (fun c8 => ?_) | refine lv_if_ne (tgt := 14) hx hb dX11_deed_8 (by decide) (fun c8 => ?_) (fun c8 => ?_)
    · skip
      exfalso
      cases c8
    · skip
      refine lv_bipush (v := -101) hx hb dX11_deed_11 (by decide) ?_
      exact xiret hx hb hr hlk hw hS dX11_deed_13 ⟨by rw [v_deed, onR_out hx1], rfl⟩
set_option maxHeartbeats 4000000 in
set_option maxRecDepth 100000 in
theorem kX11_free (l : Launch) (N0 : Nat) (G : XG) (w : Wd) (x0 Z : Nat) (S : QS) (hR : RLQ G w x0 Z S) (hW : WF S) (hZx : x0 + 52 ≤ Z) (x y : Int32) : XM l yX11_free wsX11_free (rmD 4) N0 G [.ref x0, .int x, .int y] w vI (fun r w1 => (o_free S x y).1 = r ∧ RLQ G w1 x0 Z (o_free S x y).2 ∧ Out w w1 x0 (x0 + 52)) 0 0 := by
  refine XM.of (cc := cX11_free) (maxL := 4) (ret := (some .int)) (by decide) rfl (Nat.le_of_ble_eq_true rfl) ?_
  intro p e s m below meth c hx hb hr hlk hin0 hml hown hts hN hw hG hS ls hl
  have hown : s.vm.findClass RX11 = some m.cls := hown
  have hiX11 : ∀ x ∈ u_ws RX11 TX11 9, x ∈ wsX11_free := by decide +kernel
  have hlnk0 := hts (.fieldLink RX11 26 "LentQuill" "books" "LLentQuill$Books;") (by decide +kernel)
  have hlnk1 := hts (.fieldLink RX11 19 "LentQuill" "town" "LLentQuill$Town;") (by decide +kernel)
  have hl : lh ls 4 [some (.ref x0), some (.int x), some (.int y), none] := hl
  obtain ⟨hx0, hPg, hTn, hBk, ⟨Bi, hBi, hBie⟩, ⟨hs, Ts, fw, fr, hSr⟩, ⟨dsF, hdF, F, hFr⟩⟩ := id hR
  obtain ⟨h5, hlim⟩ := hTn.five
  have hsn : sn S = (sP S).length := rfl
  have hpgc := hPg.cell
  have htnc := hTn.cell
  have hbkc := hBk.cell
  have hbic := hBi.cell
  have hsrc := hSr.cell
  have hfrc := hFr.1
  obtain ⟨hd6, hh6, hdw⟩ := hBk.six
  have hsd : (sd S).length = (sB S).2.1.length := rfl
  have hsh : (sh S).length = (sB S).2.2.length := rfl
  rcases inR_or x (sd S).length with ⟨i, hi, hi31, rfl⟩ | hx1 <;> rcases inR_or y (sn S) with ⟨k, hk, hk31, rfl⟩ | hy1
  · skip
    refine xaload_n hx hb dX11_free_0 hl rfl ?_
    refine xget (C := RX11) (T := TX11) (N := 9) hx hb (ci := 11) hts hiX11 hown hG hw (by repeat first | assumption | exact wu_eq _ _ _ | refine wu_ne (by omega) ?_) rfl 2 (by decide) hlnk0 (fun _ h9 => h9) rfl dX11_free_1 ?_
    refine xiload_n hx hb dX11_free_4 hl rfl ?_
    refine xVi ⟨hx, hb, hml, hown, hts⟩ (kX2_isDeed l N0 G _ _ _ _ _ hBk i hi) (cwV 1 hts gX11_free_X2_isDeed rfl rfl rfl (by decide +kernel) ⟨Nat.le_of_ble_eq_true rfl, Nat.le_of_ble_eq_true rfl⟩) hG hN hw hS (ci := 2) (by repeat first | assumption | exact wu_eq _ _ _ | refine wu_ne (by omega) ?_) rfl rfl hl.1 rfl (Nat.le_of_ble_eq_true rfl) dX11_free_5 ⟨Nat.le_of_ble_eq_true rfl, Nat.le_of_ble_eq_true rfl⟩ (fun r5 w5 H locs hp5 hw hS => ?_)
    obtain ⟨rfl, rfl⟩ := hp5
    first | refine xifb_eq (tgt := 22) hx hb dX11_free_8 (by decide) (fun c8 => ?_) (fun c8 => ?_) | refine xif_eq (tgt := 22) hx hb dX11_free_8 (by decide) (by omega) (fun c8 => ?_) (fun c8 => ?_) | refine lv_if_eq (tgt := 22) hx hb dX11_free_8 (by decide) (fun c8 => ?_) (fun c8 => ?_)
    · skip
      exfalso
      cases c8
    · skip
      refine xaload_n hx hb dX11_free_11 hl rfl ?_
      refine xget (C := RX11) (T := TX11) (N := 9) hx hb (ci := 11) hts hiX11 hown hG hw (by repeat first | assumption | exact wu_eq _ _ _ | refine wu_ne (by omega) ?_) rfl 1 (by decide) hlnk1 (fun _ h9 => h9) rfl dX11_free_12 ?_
      refine xiload_n hx hb dX11_free_15 hl rfl ?_
      refine xVr ⟨hx, hb, hml, hown, hts⟩ (kX10_one l N0 G _ _ Z _ _ hTn k hk) (cwV 1 hts gX11_free_X10_one rfl rfl rfl (by decide +kernel) ⟨Nat.le_of_ble_eq_true rfl, Nat.le_of_ble_eq_true rfl⟩) hG hN hw hS (ci := 10) (by repeat first | assumption | exact wu_eq _ _ _ | refine wu_ne (by omega) ?_) rfl rfl hl.1 rfl (Nat.le_of_ble_eq_true rfl) dX11_free_16 ⟨Nat.le_of_ble_eq_true rfl, Nat.le_of_ble_eq_true rfl⟩ (fun r16 w16 H locs hp16 hw hS => ?_)
      obtain ⟨⟨q, rfl, hqZ, hq⟩, rfl⟩ := hp16
      refine xrf rfl ?_
      refine lv_ifnonnull (tgt := 25) hx hb dX11_free_19 (by decide) ?_
      refine xaload_n hx hb dX11_free_25 hl rfl ?_
      refine xget (C := RX11) (T := TX11) (N := 9) hx hb (ci := 11) hts hiX11 hown hG hw (by repeat first | assumption | exact wu_eq _ _ _ | refine wu_ne (by omega) ?_) rfl 2 (by decide) hlnk0 (fun _ h9 => h9) rfl dX11_free_26 ?_
      refine xiload_n hx hb dX11_free_29 hl rfl ?_
      refine xVi ⟨hx, hb, hml, hown, hts⟩ (kX2_boundByDeed l N0 G _ _ _ _ _ hBk i hi) (cwV 1 hts gX11_free_X2_boundByDeed rfl rfl rfl (by decide +kernel) ⟨Nat.le_of_ble_eq_true rfl, Nat.le_of_ble_eq_true rfl⟩) hG hN hw hS (ci := 2) (by repeat first | assumption | exact wu_eq _ _ _ | refine wu_ne (by omega) ?_) rfl rfl hl.1 rfl (Nat.le_of_ble_eq_true rfl) dX11_free_30 ⟨Nat.le_of_ble_eq_true rfl, Nat.le_of_ble_eq_true rfl⟩ (fun r30 w30 H locs hp30 hw hS => ?_)
      obtain ⟨rfl, rfl⟩ := hp30
      refine xistore_n hx hb dX11_free_33 hl (by decide) rfl (fun ls hl => ?_)
      refine xiload_n hx hb dX11_free_34 hl rfl ?_
      refine xiload_n hx hb dX11_free_35 hl rfl ?_
      refine xSi ⟨hx, hb, hml, hown, hts⟩ (kX11_holds l N0 G _ _ k (hdw i hi).2 (by omega)) (va_cwS 2 hts gX11_free_X11_holds rfl rfl rfl (by decide +kernel) ⟨Nat.le_of_ble_eq_true rfl, Nat.le_of_ble_eq_true rfl⟩) hG hN hw hS rfl hl.1 rfl (Nat.le_of_ble_eq_true rfl) dX11_free_36 ⟨Nat.le_of_ble_eq_true rfl, Nat.le_of_ble_eq_true rfl⟩ (fun r36 w36 H locs hp36 hw hS => ?_)
      obtain ⟨rfl, rfl⟩ := hp36
      first | refine xifb_ne (tgt := 45) hx hb dX11_free_39 (by decide) (fun c39 => ?_) (fun c39 => ?_) | refine xif_ne (tgt := 45) hx hb dX11_free_39 (by decide) (by omega) (fun c39 => ?_) (fun c39 => ?_) | refine lv_if_ne (tgt := 45) hx hb dX11_free_39 (by decide) (fun c39 => ?_) (fun c39 => ?_)
      · skip
        refine xaload_n hx hb dX11_free_45 hl rfl ?_
        refine xget (C := RX11) (T := TX11) (N := 9) hx hb (ci := 11) hts hiX11 hown hG hw (by repeat first | assumption | exact wu_eq _ _ _ | refine wu_ne (by omega) ?_) rfl 2 (by decide) hlnk0 (fun _ h9 => h9) rfl dX11_free_46 ?_
        refine xiload_n hx hb dX11_free_49 hl rfl ?_
        refine xiload_n hx hb dX11_free_50 hl rfl ?_
        refine xVv ⟨hx, hb, hml, hown, hts⟩ (kX2_unbind l N0 G _ _ _ _ _ hBk i k hi (by omega)) (cwV 2 hts gX11_free_X2_unbind rfl rfl rfl (by decide +kernel) ⟨Nat.le_of_ble_eq_true rfl, Nat.le_of_ble_eq_true rfl⟩) hG hN hw hS (ci := 2) (by repeat first | assumption | exact wu_eq _ _ _ | refine wu_ne (by omega) ?_) rfl rfl hl.1 rfl (Nat.le_of_ble_eq_true rfl) dX11_free_51 ⟨Nat.le_of_ble_eq_true rfl, Nat.le_of_ble_eq_true rfl⟩ (fun r51 w51 H locs hp51 hw hS => ?_)
        obtain ⟨hB2, hO2⟩ := hp51
        have hx2 := hO2.at (by omega) hx0
        have hb2 := hB2.cell
        have hbe : bd ((sB S).2.1.set i (dbt (sB S).2.1 i, clr (bd (sB S).2.1 i) k)) i = clr (bd (sB S).2.1 i) k := (dbt_set (ds := (sB S).2.1) hi).2.trans (if_pos rfl)
        refine xaload_n hx hb dX11_free_54 hl rfl ?_
        refine xget (C := RX11) (T := TX11) (N := 9) hx hb (ci := 11) hts hiX11 hown hG hw (by repeat first | assumption | exact wu_eq _ _ _ | refine wu_ne (by omega) ?_) rfl 2 (by decide) hlnk0 (fun _ h9 => h9) rfl dX11_free_55 ?_
        refine xiload_n hx hb dX11_free_58 hl rfl ?_
        refine xVi ⟨hx, hb, hml, hown, hts⟩ (kX2_boundByDeed l N0 G _ _ _ _ _ hB2 i (by rw [List.length_set]; exact hi)) (cwV 1 hts gX11_free_X2_boundByDeed rfl rfl rfl (by decide +kernel) ⟨Nat.le_of_ble_eq_true rfl, Nat.le_of_ble_eq_true rfl⟩) hG hN hw hS (ci := 2) (by repeat first | assumption | exact wu_eq _ _ _ | refine wu_ne (by omega) ?_) rfl rfl hl.1 rfl (Nat.le_of_ble_eq_true rfl) dX11_free_59 ⟨Nat.le_of_ble_eq_true rfl, Nat.le_of_ble_eq_true rfl⟩ (fun r59 w59 H locs hp59 hw hS => ?_)
        obtain ⟨rfl, rfl⟩ := hp59
        refine xtop (congrArg nI hbe) ?_
        refine xSi ⟨hx, hb, hml, hown, hts⟩ (kJ6_bitCount_0f7a4 l N0 G _ _ (clr_lt _ (hdw i hi).2 k (by omega))) (va_cwS 1 hts gX11_free_J6_bitCount_0f7a4 rfl rfl rfl (by decide +kernel) ⟨Nat.le_of_ble_eq_true rfl, Nat.le_of_ble_eq_true rfl⟩) hG hN hw hS rfl hl.1 rfl (Nat.le_of_ble_eq_true rfl) dX11_free_62 ⟨Nat.le_of_ble_eq_true rfl, Nat.le_of_ble_eq_true rfl⟩ (fun r62 w62 H locs hp62 hw hS => ?_)
        obtain ⟨rfl, rfl⟩ := hp62
        exact xiret hx hb hr hlk hw hS dX11_free_65 ⟨by rw [free_y hi hi31 hk hk31 c39]; rfl, by rw [free_y hi hi31 hk hk31 c39]; exact hR.bks (hO2.mono (by omega) (by omega)) hB2 hZx, hO2.mono (by omega) (by omega)⟩
      · skip
        refine lv_bipush (v := -103) hx hb dX11_free_42 (by decide) ?_
        exact xiret hx hb hr hlk hw hS dX11_free_44 ⟨by rw [free_n hi hi31 hk hk31 c39], by rw [free_n hi hi31 hk hk31 c39]; exact hR, Out.rf⟩
  · skip
    refine xaload_n hx hb dX11_free_0 hl rfl ?_
    refine xget (C := RX11) (T := TX11) (N := 9) hx hb (ci := 11) hts hiX11 hown hG hw (by repeat first | assumption | exact wu_eq _ _ _ | refine wu_ne (by omega) ?_) rfl 2 (by decide) hlnk0 (fun _ h9 => h9) rfl dX11_free_1 ?_
    refine xiload_n hx hb dX11_free_4 hl rfl ?_
    refine xVi ⟨hx, hb, hml, hown, hts⟩ (kX2_isDeed l N0 G _ _ _ _ _ hBk i hi) (cwV 1 hts gX11_free_X2_isDeed rfl rfl rfl (by decide +kernel) ⟨Nat.le_of_ble_eq_true rfl, Nat.le_of_ble_eq_true rfl⟩) hG hN hw hS (ci := 2) (by repeat first | assumption | exact wu_eq _ _ _ | refine wu_ne (by omega) ?_) rfl rfl hl.1 rfl (Nat.le_of_ble_eq_true rfl) dX11_free_5 ⟨Nat.le_of_ble_eq_true rfl, Nat.le_of_ble_eq_true rfl⟩ (fun r5 w5 H locs hp5 hw hS => ?_)
    obtain ⟨rfl, rfl⟩ := hp5
    first | refine xifb_eq (tgt := 22) hx hb dX11_free_8 (by decide) (fun c8 => ?_) (fun c8 => ?_) | refine xif_eq (tgt := 22) hx hb dX11_free_8 (by decide) (by omega) (fun c8 => ?_) (fun c8 => ?_) | refine lv_if_eq (tgt := 22) hx hb dX11_free_8 (by decide) (fun c8 => ?_) (fun c8 => ?_)
    · skip
      exfalso
      cases c8
    · skip
      refine xaload_n hx hb dX11_free_11 hl rfl ?_
      refine xget (C := RX11) (T := TX11) (N := 9) hx hb (ci := 11) hts hiX11 hown hG hw (by repeat first | assumption | exact wu_eq _ _ _ | refine wu_ne (by omega) ?_) rfl 1 (by decide) hlnk1 (fun _ h9 => h9) rfl dX11_free_12 ?_
      refine xiload_n hx hb dX11_free_15 hl rfl ?_
      refine xVr ⟨hx, hb, hml, hown, hts⟩ (kX10_one_out l N0 G _ _ Z _ _ hTn _ hy1) (cwV 1 hts gX11_free_X10_one rfl rfl rfl (by decide +kernel) ⟨Nat.le_of_ble_eq_true rfl, Nat.le_of_ble_eq_true rfl⟩) hG hN hw hS (ci := 10) (by repeat first | assumption | exact wu_eq _ _ _ | refine wu_ne (by omega) ?_) rfl rfl hl.1 rfl (Nat.le_of_ble_eq_true rfl) dX11_free_16 ⟨Nat.le_of_ble_eq_true rfl, Nat.le_of_ble_eq_true rfl⟩ (fun r16 w16 H locs hp16 hw hS => ?_)
      obtain ⟨rfl, rfl⟩ := hp16
      refine xrn rfl ?_
      refine lv_ifnonnullN hx hb dX11_free_19 ?_
      refine lv_bipush (v := -101) hx hb dX11_free_22 (by decide) ?_
      exact xiret hx hb hr hlk hw hS dX11_free_24 ⟨by rw [o_free, onR_in hi hi31, onR_out hy1], by rw [o_free, onR_in hi hi31, onR_out hy1]; exact hR, Out.rf⟩
  · skip
    refine xaload_n hx hb dX11_free_0 hl rfl ?_
    refine xget (C := RX11) (T := TX11) (N := 9) hx hb (ci := 11) hts hiX11 hown hG hw (by repeat first | assumption | exact wu_eq _ _ _ | refine wu_ne (by omega) ?_) rfl 2 (by decide) hlnk0 (fun _ h9 => h9) rfl dX11_free_1 ?_
    refine xiload_n hx hb dX11_free_4 hl rfl ?_
    refine xVi ⟨hx, hb, hml, hown, hts⟩ (kX2_isDeed_out l N0 G _ _ _ _ _ hBk _ hx1) (cwV 1 hts gX11_free_X2_isDeed rfl rfl rfl (by decide +kernel) ⟨Nat.le_of_ble_eq_true rfl, Nat.le_of_ble_eq_true rfl⟩) hG hN hw hS (ci := 2) (by repeat first | assumption | exact wu_eq _ _ _ | refine wu_ne (by omega) ?_) rfl rfl hl.1 rfl (Nat.le_of_ble_eq_true rfl) dX11_free_5 ⟨Nat.le_of_ble_eq_true rfl, Nat.le_of_ble_eq_true rfl⟩ (fun r5 w5 H locs hp5 hw hS => ?_)
    obtain ⟨rfl, rfl⟩ := hp5
    first | refine xifb_eq (tgt := 22) hx hb dX11_free_8 (by decide) (fun c8 => ?_) (fun c8 => ?_) | refine xif_eq (tgt := 22) hx hb dX11_free_8 (by decide) (by omega) (fun c8 => ?_) (fun c8 => ?_) | refine lv_if_eq (tgt := 22) hx hb dX11_free_8 (by decide) (fun c8 => ?_) (fun c8 => ?_)
    · skip
      refine lv_bipush (v := -101) hx hb dX11_free_22 (by decide) ?_
      exact xiret hx hb hr hlk hw hS dX11_free_24 ⟨by rw [o_free, onR_out hx1], by rw [o_free, onR_out hx1]; exact hR, Out.rf⟩
    · skip
      exfalso
      cases c8
  · skip
    refine xaload_n hx hb dX11_free_0 hl rfl ?_
    refine xget (C := RX11) (T := TX11) (N := 9) hx hb (ci := 11) hts hiX11 hown hG hw (by repeat first | assumption | exact wu_eq _ _ _ | refine wu_ne (by omega) ?_) rfl 2 (by decide) hlnk0 (fun _ h9 => h9) rfl dX11_free_1 ?_
    refine xiload_n hx hb dX11_free_4 hl rfl ?_
    refine xVi ⟨hx, hb, hml, hown, hts⟩ (kX2_isDeed_out l N0 G _ _ _ _ _ hBk _ hx1) (cwV 1 hts gX11_free_X2_isDeed rfl rfl rfl (by decide +kernel) ⟨Nat.le_of_ble_eq_true rfl, Nat.le_of_ble_eq_true rfl⟩) hG hN hw hS (ci := 2) (by repeat first | assumption | exact wu_eq _ _ _ | refine wu_ne (by omega) ?_) rfl rfl hl.1 rfl (Nat.le_of_ble_eq_true rfl) dX11_free_5 ⟨Nat.le_of_ble_eq_true rfl, Nat.le_of_ble_eq_true rfl⟩ (fun r5 w5 H locs hp5 hw hS => ?_)
    obtain ⟨rfl, rfl⟩ := hp5
    first | refine xifb_eq (tgt := 22) hx hb dX11_free_8 (by decide) (fun c8 => ?_) (fun c8 => ?_) | refine xif_eq (tgt := 22) hx hb dX11_free_8 (by decide) (by omega) (fun c8 => ?_) (fun c8 => ?_) | refine lv_if_eq (tgt := 22) hx hb dX11_free_8 (by decide) (fun c8 => ?_) (fun c8 => ?_)
    · skip
      refine lv_bipush (v := -101) hx hb dX11_free_22 (by decide) ?_
      exact xiret hx hb hr hlk hw hS dX11_free_24 ⟨by rw [o_free, onR_out hx1], by rw [o_free, onR_out hx1]; exact hR, Out.rf⟩
    · skip
      exfalso
      cases c8
set_option maxHeartbeats 4000000 in
set_option maxRecDepth 100000 in
theorem kX11_owes (l : Launch) (N0 : Nat) (G : XG) (w : Wd) (x0 Z : Nat) (S : QS) (hR : RLQ G w x0 Z S) (hW : WF S) (hZx : x0 + 52 ≤ Z) (x y : Int32) : XM l yX11_owes wsX11_owes (rmD 4) N0 G [.ref x0, .int x, .int y] w vI (fun r w1 => v_owes S x y = r ∧ w = w1) 0 0 := by
  refine XM.of (cc := cX11_owes) (maxL := 4) (ret := (some .int)) (by decide) rfl (Nat.le_of_ble_eq_true rfl) ?_
  intro p e s m below meth c hx hb hr hlk hin0 hml hown hts hN hw hG hS ls hl
  have hown : s.vm.findClass RX11 = some m.cls := hown
  have hiX11 : ∀ x ∈ u_ws RX11 TX11 9, x ∈ wsX11_owes := by decide +kernel
  have hlnk0 := hts (.fieldLink RX11 19 "LentQuill" "town" "LLentQuill$Town;") (by decide +kernel)
  have hlnk1 := hts (.fieldLink RX11 26 "LentQuill" "books" "LLentQuill$Books;") (by decide +kernel)
  have hl : lh ls 4 [some (.ref x0), some (.int x), some (.int y), none] := hl
  obtain ⟨hx0, hPg, hTn, hBk, ⟨Bi, hBi, hBie⟩, ⟨hs, Ts, fw, fr, hSr⟩, ⟨dsF, hdF, F, hFr⟩⟩ := id hR
  obtain ⟨h5, hlim⟩ := hTn.five
  have hsn : sn S = (sP S).length := rfl
  have hpgc := hPg.cell
  have htnc := hTn.cell
  have hbkc := hBk.cell
  have hbic := hBi.cell
  have hsrc := hSr.cell
  have hfrc := hFr.1
  obtain ⟨hd6, hh6, hdw⟩ := hBk.six
  have hsd : (sd S).length = (sB S).2.1.length := rfl
  have hsh : (sh S).length = (sB S).2.2.length := rfl
  have hgp : 0 < Nat.gcd 0 60 := by decide
  rcases inR_or x (sn S) with ⟨i, hi, hi31, rfl⟩ | hx1 <;> rcases inR_or y 2 with ⟨k, hk, hk31, rfl⟩ | hy1
  · skip
    have how := owe_lt (q := i) hdw hd6
    have hg0 : 0 < Nat.gcd (oweN (sB S).2.1 i (sB S).2.1.length) 60 := Nat.gcd_pos_of_pos_right _ (by omega)
    have hg60 : Nat.gcd (oweN (sB S).2.1 i (sB S).2.1.length) 60 ≤ 60 := Nat.le_of_dvd (by omega) (Nat.gcd_dvd_right _ _)
    refine xaload_n hx hb dX11_owes_0 hl rfl ?_
    refine xget (C := RX11) (T := TX11) (N := 9) hx hb (ci := 11) hts hiX11 hown hG hw (by repeat first | assumption | exact wu_eq _ _ _ | refine wu_ne (by omega) ?_) rfl 1 (by decide) hlnk0 (fun _ h9 => h9) rfl dX11_owes_1 ?_
    refine xiload_n hx hb dX11_owes_4 hl rfl ?_
    refine xVr ⟨hx, hb, hml, hown, hts⟩ (kX10_one l N0 G _ _ Z _ _ hTn i hi) (cwV 1 hts gX11_owes_X10_one rfl rfl rfl (by decide +kernel) ⟨Nat.le_of_ble_eq_true rfl, Nat.le_of_ble_eq_true rfl⟩) hG hN hw hS (ci := 10) (by repeat first | assumption | exact wu_eq _ _ _ | refine wu_ne (by omega) ?_) rfl rfl hl.1 rfl (Nat.le_of_ble_eq_true rfl) dX11_owes_5 ⟨Nat.le_of_ble_eq_true rfl, Nat.le_of_ble_eq_true rfl⟩ (fun r5 w5 H locs hp5 hw hS => ?_)
    obtain ⟨⟨q, rfl, hqZ, hq⟩, rfl⟩ := hp5
    refine xrf rfl ?_
    refine lv_ifnonnull (tgt := 14) hx hb dX11_owes_8 (by decide) ?_
    refine xiload_n hx hb dX11_owes_14 hl rfl ?_
    refine xif_lt (tgt := 23) hx hb dX11_owes_15 (by decide) (by omega) ?_
    refine xiload_n hx hb dX11_owes_18 hl rfl ?_
    refine lv_iconst (v := nI 1) hx hb dX11_owes_19 (by decide) ?_
    first | refine xcmp_le (tgt := 26) hx hb dX11_owes_20 (by decide) (by omega) (by omega) (fun c20 => ?_) (fun c20 => ?_) | refine lv_icmp_le (tgt := 26) hx hb dX11_owes_20 (by decide) (fun c20 => ?_) (fun c20 => ?_)
    · skip
      refine xaload_n hx hb dX11_owes_26 hl rfl ?_
      refine xget (C := RX11) (T := TX11) (N := 9) hx hb (ci := 11) hts hiX11 hown hG hw (by repeat first | assumption | exact wu_eq _ _ _ | refine wu_ne (by omega) ?_) rfl 2 (by decide) hlnk1 (fun _ h9 => h9) rfl dX11_owes_27 ?_
      refine xiload_n hx hb dX11_owes_30 hl rfl ?_
      refine xVi ⟨hx, hb, hml, hown, hts⟩ (kX2_partsOwedBy l N0 G _ _ _ _ _ hBk i (by omega)) (cwV 1 hts gX11_owes_X2_partsOwedBy rfl rfl rfl (by decide +kernel) ⟨Nat.le_of_ble_eq_true rfl, Nat.le_of_ble_eq_true rfl⟩) hG hN hw hS (ci := 2) (by repeat first | assumption | exact wu_eq _ _ _ | refine wu_ne (by omega) ?_) rfl rfl hl.1 rfl (Nat.le_of_ble_eq_true rfl) dX11_owes_31 ⟨Nat.le_of_ble_eq_true rfl, Nat.le_of_ble_eq_true rfl⟩ (fun r31 w31 H locs hp31 hw hS => ?_)
      obtain ⟨rfl, rfl⟩ := hp31
      refine xistore_n hx hb dX11_owes_34 hl (by decide) rfl (fun ls hl => ?_)
      refine xiload_n hx hb dX11_owes_35 hl rfl ?_
      first | refine xifb_ne (tgt := 43) hx hb dX11_owes_36 (by decide) (fun c36 => ?_) (fun c36 => ?_) | refine xif_ne (tgt := 43) hx hb dX11_owes_36 (by decide) (by omega) (fun c36 => ?_) (fun c36 => ?_) | refine lv_if_ne (tgt := 43) hx hb dX11_owes_36 (by decide) (fun c36 => ?_) (fun c36 => ?_)
      · skip
        refine lv_bipush (v := nI 60) hx hb dX11_owes_43 (by decide) ?_
        refine xiload_n hx hb dX11_owes_45 hl rfl ?_
        refine xSi ⟨hx, hb, hml, hown, hts⟩ (kX11_lowest l N0 G _ _ _ (by omega) (by omega)) (va_cwS 2 hts gX11_owes_X11_lowest rfl rfl rfl (by decide +kernel) ⟨Nat.le_of_ble_eq_true rfl, Nat.le_of_ble_eq_true rfl⟩) hG hN hw hS rfl hl.1 rfl (Nat.le_of_ble_eq_true rfl) dX11_owes_46 ⟨Nat.le_of_ble_eq_true rfl, Nat.le_of_ble_eq_true rfl⟩ (fun r46 w46 H locs hp46 hw hS => ?_)
        obtain ⟨rfl, rfl⟩ := hp46
        exact xiret hx hb hr hlk hw hS dX11_owes_49 ⟨by rw [v_owes, onR_in hi hi31, onR_in hk hk31]; unfold oweV; first | (rw [if_pos c36]; rfl) | (rw [if_neg c36]; rfl), rfl⟩
      · skip
        refine xiload_n hx hb dX11_owes_39 hl rfl ?_
        refine lv_goto (tgt := 45) hx hb dX11_owes_40 (by decide) ?_
        refine xiload_n hx hb dX11_owes_45 hl rfl ?_
        refine xSi ⟨hx, hb, hml, hown, hts⟩ (kX11_lowest l N0 G _ _ _ (by omega) (by omega)) (va_cwS 2 hts gX11_owes_X11_lowest rfl rfl rfl (by decide +kernel) ⟨Nat.le_of_ble_eq_true rfl, Nat.le_of_ble_eq_true rfl⟩) hG hN hw hS rfl hl.1 rfl (Nat.le_of_ble_eq_true rfl) dX11_owes_46 ⟨Nat.le_of_ble_eq_true rfl, Nat.le_of_ble_eq_true rfl⟩ (fun r46 w46 H locs hp46 hw hS => ?_)
        obtain ⟨rfl, rfl⟩ := hp46
        exact xiret hx hb hr hlk hw hS dX11_owes_49 ⟨by rw [v_owes, onR_in hi hi31, onR_in hk hk31]; unfold oweV; first | (rw [if_pos c36]; rfl) | (rw [if_neg c36]; rfl), rfl⟩
    · skip
      exfalso
      omega
  · skip
    refine xaload_n hx hb dX11_owes_0 hl rfl ?_
    refine xget (C := RX11) (T := TX11) (N := 9) hx hb (ci := 11) hts hiX11 hown hG hw (by repeat first | assumption | exact wu_eq _ _ _ | refine wu_ne (by omega) ?_) rfl 1 (by decide) hlnk0 (fun _ h9 => h9) rfl dX11_owes_1 ?_
    refine xiload_n hx hb dX11_owes_4 hl rfl ?_
    refine xVr ⟨hx, hb, hml, hown, hts⟩ (kX10_one l N0 G _ _ Z _ _ hTn i hi) (cwV 1 hts gX11_owes_X10_one rfl rfl rfl (by decide +kernel) ⟨Nat.le_of_ble_eq_true rfl, Nat.le_of_ble_eq_true rfl⟩) hG hN hw hS (ci := 10) (by repeat first | assumption | exact wu_eq _ _ _ | refine wu_ne (by omega) ?_) rfl rfl hl.1 rfl (Nat.le_of_ble_eq_true rfl) dX11_owes_5 ⟨Nat.le_of_ble_eq_true rfl, Nat.le_of_ble_eq_true rfl⟩ (fun r5 w5 H locs hp5 hw hS => ?_)
    obtain ⟨⟨q, rfl, hqZ, hq⟩, rfl⟩ := hp5
    refine xrf rfl ?_
    refine lv_ifnonnull (tgt := 14) hx hb dX11_owes_8 (by decide) ?_
    refine xiload_n hx hb dX11_owes_14 hl rfl ?_
    refine lv_if_lt (tgt := 23) hx hb dX11_owes_15 (by decide) (fun c15 => ?_) (fun c15 => ?_)
    · skip
      refine lv_bipush (v := -102) hx hb dX11_owes_23 (by decide) ?_
      exact xiret hx hb hr hlk hw hS dX11_owes_25 ⟨by rw [v_owes, onR_in hi hi31, onR_out hy1], rfl⟩
    · skip
      refine xiload_n hx hb dX11_owes_18 hl rfl ?_
      refine lv_iconst (v := nI 1) hx hb dX11_owes_19 (by decide) ?_
      refine lv_icmp_le (tgt := 26) hx hb dX11_owes_20 (by decide) (fun c20 => ?_) (fun c20 => ?_)
      · skip
        exfalso
        exact hy1 (rawin0 c15 c20 (by omega))
      · skip
        refine lv_bipush (v := -102) hx hb dX11_owes_23 (by decide) ?_
        exact xiret hx hb hr hlk hw hS dX11_owes_25 ⟨by rw [v_owes, onR_in hi hi31, onR_out hy1], rfl⟩
  · skip
    refine xaload_n hx hb dX11_owes_0 hl rfl ?_
    refine xget (C := RX11) (T := TX11) (N := 9) hx hb (ci := 11) hts hiX11 hown hG hw (by repeat first | assumption | exact wu_eq _ _ _ | refine wu_ne (by omega) ?_) rfl 1 (by decide) hlnk0 (fun _ h9 => h9) rfl dX11_owes_1 ?_
    refine xiload_n hx hb dX11_owes_4 hl rfl ?_
    refine xVr ⟨hx, hb, hml, hown, hts⟩ (kX10_one_out l N0 G _ _ Z _ _ hTn _ hx1) (cwV 1 hts gX11_owes_X10_one rfl rfl rfl (by decide +kernel) ⟨Nat.le_of_ble_eq_true rfl, Nat.le_of_ble_eq_true rfl⟩) hG hN hw hS (ci := 10) (by repeat first | assumption | exact wu_eq _ _ _ | refine wu_ne (by omega) ?_) rfl rfl hl.1 rfl (Nat.le_of_ble_eq_true rfl) dX11_owes_5 ⟨Nat.le_of_ble_eq_true rfl, Nat.le_of_ble_eq_true rfl⟩ (fun r5 w5 H locs hp5 hw hS => ?_)
    obtain ⟨rfl, rfl⟩ := hp5
    refine xrn rfl ?_
    refine lv_ifnonnullN hx hb dX11_owes_8 ?_
    refine lv_bipush (v := -101) hx hb dX11_owes_11 (by decide) ?_
    exact xiret hx hb hr hlk hw hS dX11_owes_13 ⟨by rw [v_owes, onR_out hx1], rfl⟩
  · skip
    refine xaload_n hx hb dX11_owes_0 hl rfl ?_
    refine xget (C := RX11) (T := TX11) (N := 9) hx hb (ci := 11) hts hiX11 hown hG hw (by repeat first | assumption | exact wu_eq _ _ _ | refine wu_ne (by omega) ?_) rfl 1 (by decide) hlnk0 (fun _ h9 => h9) rfl dX11_owes_1 ?_
    refine xiload_n hx hb dX11_owes_4 hl rfl ?_
    refine xVr ⟨hx, hb, hml, hown, hts⟩ (kX10_one_out l N0 G _ _ Z _ _ hTn _ hx1) (cwV 1 hts gX11_owes_X10_one rfl rfl rfl (by decide +kernel) ⟨Nat.le_of_ble_eq_true rfl, Nat.le_of_ble_eq_true rfl⟩) hG hN hw hS (ci := 10) (by repeat first | assumption | exact wu_eq _ _ _ | refine wu_ne (by omega) ?_) rfl rfl hl.1 rfl (Nat.le_of_ble_eq_true rfl) dX11_owes_5 ⟨Nat.le_of_ble_eq_true rfl, Nat.le_of_ble_eq_true rfl⟩ (fun r5 w5 H locs hp5 hw hS => ?_)
    obtain ⟨rfl, rfl⟩ := hp5
    refine xrn rfl ?_
    refine lv_ifnonnullN hx hb dX11_owes_8 ?_
    refine lv_bipush (v := -101) hx hb dX11_owes_11 (by decide) ?_
    exact xiret hx hb hr hlk hw hS dX11_owes_13 ⟨by rw [v_owes, onR_out hx1], rfl⟩
set_option maxHeartbeats 4000000 in
set_option maxRecDepth 100000 in
theorem kX11_find (l : Launch) (N0 : Nat) (G : XG) (w : Wd) (x0 Z : Nat) (S : QS) (hR : RLQ G w x0 Z S) (hW : WF S) (hZx : x0 + 52 ≤ Z) (x : Int32) : XM l yX11_find wsX11_find (rmD 5) N0 G [.ref x0, .int x] w vI (fun r w1 => v_find S x = r ∧ w = w1) 0 0 := by
  refine XM.of (cc := cX11_find) (maxL := 3) (ret := (some .int)) (by decide) rfl (Nat.le_of_ble_eq_true rfl) ?_
  intro p e s m below meth c hx hb hr hlk hin0 hml hown hts hN hw hG hS ls hl
  have hown : s.vm.findClass RX11 = some m.cls := hown
  have hiX11 : ∀ x ∈ u_ws RX11 TX11 9, x ∈ wsX11_find := by decide +kernel
  have hlnk0 := hts (.fieldLink RX11 19 "LentQuill" "town" "LLentQuill$Town;") (by decide +kernel)
  have hlnk1 := hts (.fieldLink RX11 26 "LentQuill" "books" "LLentQuill$Books;") (by decide +kernel)
  have hl : lh ls 3 [some (.ref x0), some (.int x), none] := hl
  obtain ⟨hx0, hPg, hTn, hBk, ⟨Bi, hBi, hBie⟩, ⟨hs, Ts, fw, fr, hSr⟩, ⟨dsF, hdF, F, hFr⟩⟩ := id hR
  obtain ⟨h5, hlim⟩ := hTn.five
  have hsn : sn S = (sP S).length := rfl
  have hpgc := hPg.cell
  have htnc := hTn.cell
  have hbkc := hBk.cell
  have hbic := hBi.cell
  have hsrc := hSr.cell
  have hfrc := hFr.1
  obtain ⟨hd6, hh6, hdw⟩ := hBk.six
  have hsd : (sd S).length = (sB S).2.1.length := rfl
  have hsh : (sh S).length = (sB S).2.2.length := rfl
  rcases inR_or x 2 with ⟨k, hk, hk31, rfl⟩ | hx1
  · skip
    have hp2 := p2n h5
    refine xiload_n hx hb dX11_find_0 hl rfl ?_
    refine xif_lt (tgt := 9) hx hb dX11_find_1 (by decide) (by omega) ?_
    refine xiload_n hx hb dX11_find_4 hl rfl ?_
    refine lv_iconst (v := nI 1) hx hb dX11_find_5 (by decide) ?_
    first | refine xcmp_le (tgt := 12) hx hb dX11_find_6 (by decide) (by omega) (by omega) (fun c6 => ?_) (fun c6 => ?_) | refine lv_icmp_le (tgt := 12) hx hb dX11_find_6 (by decide) (fun c6 => ?_) (fun c6 => ?_)
    · skip
      refine xaload_n hx hb dX11_find_12 hl rfl ?_
      refine xget (C := RX11) (T := TX11) (N := 9) hx hb (ci := 11) hts hiX11 hown hG hw (by repeat first | assumption | exact wu_eq _ _ _ | refine wu_ne (by omega) ?_) rfl 1 (by decide) hlnk0 (fun _ h9 => h9) rfl dX11_find_13 ?_
      refine xVi ⟨hx, hb, hml, hown, hts⟩ (kX10_isEmpty l N0 G _ _ Z _ _ hTn) (cwV 0 hts gX11_find_X10_isEmpty rfl rfl rfl (by decide +kernel) ⟨Nat.le_of_ble_eq_true rfl, Nat.le_of_ble_eq_true rfl⟩) hG hN hw hS (ci := 10) (by repeat first | assumption | exact wu_eq _ _ _ | refine wu_ne (by omega) ?_) rfl rfl hl.1 rfl (Nat.le_of_ble_eq_true rfl) dX11_find_16 ⟨Nat.le_of_ble_eq_true rfl, Nat.le_of_ble_eq_true rfl⟩ (fun r16 w16 H locs hp16 hw hS => ?_)
      obtain ⟨rfl, rfl⟩ := hp16
      first | refine xifb_eq (tgt := 25) hx hb dX11_find_19 (by decide) (fun c19 => ?_) (fun c19 => ?_) | refine xif_eq (tgt := 25) hx hb dX11_find_19 (by decide) (by omega) (fun c19 => ?_) (fun c19 => ?_) | refine lv_if_eq (tgt := 25) hx hb dX11_find_19 (by decide) (fun c19 => ?_) (fun c19 => ?_)
      · skip
        have d19 := of_decide_eq_false c19
        refine xaload_n hx hb dX11_find_25 hl rfl ?_
        refine xget (C := RX11) (T := TX11) (N := 9) hx hb (ci := 11) hts hiX11 hown hG hw (by repeat first | assumption | exact wu_eq _ _ _ | refine wu_ne (by omega) ?_) rfl 2 (by decide) hlnk1 (fun _ h9 => h9) rfl dX11_find_26 ?_
        refine xaload_n hx hb dX11_find_29 hl rfl ?_
        refine xget (C := RX11) (T := TX11) (N := 9) hx hb (ci := 11) hts hiX11 hown hG hw (by repeat first | assumption | exact wu_eq _ _ _ | refine wu_ne (by omega) ?_) rfl 1 (by decide) hlnk0 (fun _ h9 => h9) rfl dX11_find_30 ?_
        refine xVi ⟨hx, hb, hml, hown, hts⟩ (kX10_everyone l N0 G _ _ Z _ _ hTn) (cwV 0 hts gX11_find_X10_everyone rfl rfl rfl (by decide +kernel) ⟨Nat.le_of_ble_eq_true rfl, Nat.le_of_ble_eq_true rfl⟩) hG hN hw hS (ci := 10) (by repeat first | assumption | exact wu_eq _ _ _ | refine wu_ne (by omega) ?_) rfl rfl hl.1 rfl (Nat.le_of_ble_eq_true rfl) dX11_find_33 ⟨Nat.le_of_ble_eq_true rfl, Nat.le_of_ble_eq_true rfl⟩ (fun r33 w33 H locs hp33 hw hS => ?_)
        obtain ⟨rfl, rfl⟩ := hp33
        refine xVi ⟨hx, hb, hml, hown, hts⟩ (kX2_fewestBreakers l N0 G _ _ _ _ _ hBk _ (by omega) (fun m hm => find_eq _ h5 m hm)) (cwV 1 hts gX11_find_X2_fewestBreakers rfl rfl rfl (by decide +kernel) ⟨Nat.le_of_ble_eq_true rfl, Nat.le_of_ble_eq_true rfl⟩) hG hN hw hS (ci := 2) (by repeat first | assumption | exact wu_eq _ _ _ | refine wu_ne (by omega) ?_) rfl rfl hl.1 rfl (Nat.le_of_ble_eq_true rfl) dX11_find_36 ⟨Nat.le_of_ble_eq_true rfl, Nat.le_of_ble_eq_true rfl⟩ (fun r36 w36 H locs hp36 hw hS => ?_)
        obtain ⟨rfl, rfl⟩ := hp36
        refine xistore_n hx hb dX11_find_39 hl (by decide) rfl (fun ls hl => ?_)
        refine xiload_n hx hb dX11_find_40 hl rfl ?_
        first | refine xifb_ne (tgt := 51) hx hb dX11_find_41 (by decide) (fun c41 => ?_) (fun c41 => ?_) | refine xif_ne (tgt := 51) hx hb dX11_find_41 (by decide) (by omega) (fun c41 => ?_) (fun c41 => ?_) | refine lv_if_ne (tgt := 51) hx hb dX11_find_41 (by decide) (fun c41 => ?_) (fun c41 => ?_)
        · skip
          refine xiload_n hx hb dX11_find_51 hl rfl ?_
          exact xiret hx hb hr hlk hw hS dX11_find_52 ⟨by rw [v_find, onR_in hk hk31]; refine (if_neg d19).trans ?_; unfold findV; first | (rw [if_pos c41]; rfl) | (rw [if_neg c41]; rfl), rfl⟩
        · skip
          refine xiload_n hx hb dX11_find_44 hl rfl ?_
          refine xSi ⟨hx, hb, hml, hown, hts⟩ (kJ6_bitCount_0f7a4 l N0 G _ _ (fGo_lt (by omega) (by omega))) (va_cwS 1 hts gX11_find_J6_bitCount_0f7a4 rfl rfl rfl (by decide +kernel) ⟨Nat.le_of_ble_eq_true rfl, Nat.le_of_ble_eq_true rfl⟩) hG hN hw hS rfl hl.1 rfl (Nat.le_of_ble_eq_true rfl) dX11_find_45 ⟨Nat.le_of_ble_eq_true rfl, Nat.le_of_ble_eq_true rfl⟩ (fun r45 w45 H locs hp45 hw hS => ?_)
          obtain ⟨rfl, rfl⟩ := hp45
          refine lv_goto (tgt := 52) hx hb dX11_find_48 (by decide) ?_
          exact xiret hx hb hr hlk hw hS dX11_find_52 ⟨by rw [v_find, onR_in hk hk31]; refine (if_neg d19).trans ?_; unfold findV; first | (rw [if_pos c41]; rfl) | (rw [if_neg c41]; rfl), rfl⟩
      · skip
        have d19 := of_decide_eq_true c19
        refine lv_bipush (v := -103) hx hb dX11_find_22 (by decide) ?_
        exact xiret hx hb hr hlk hw hS dX11_find_24 ⟨by rw [v_find, onR_in hk hk31]; exact if_pos d19, rfl⟩
    · skip
      exfalso
      omega
  · skip
    refine xiload_n hx hb dX11_find_0 hl rfl ?_
    refine lv_if_lt (tgt := 9) hx hb dX11_find_1 (by decide) (fun c1 => ?_) (fun c1 => ?_)
    · skip
      refine lv_bipush (v := -102) hx hb dX11_find_9 (by decide) ?_
      exact xiret hx hb hr hlk hw hS dX11_find_11 ⟨by rw [v_find, onR_out hx1], rfl⟩
    · skip
      refine xiload_n hx hb dX11_find_4 hl rfl ?_
      refine lv_iconst (v := nI 1) hx hb dX11_find_5 (by decide) ?_
      refine lv_icmp_le (tgt := 12) hx hb dX11_find_6 (by decide) (fun c6 => ?_) (fun c6 => ?_)
      · skip
        exfalso
        exact hx1 (rawin0 c1 c6 (by omega))
      · skip
        refine lv_bipush (v := -102) hx hb dX11_find_9 (by decide) ?_
        exact xiret hx hb hr hlk hw hS dX11_find_11 ⟨by rw [v_find, onR_out hx1], rfl⟩
set_option maxHeartbeats 4000000 in
set_option maxRecDepth 100000 in
theorem kX11_hear (l : Launch) (N0 : Nat) (G : XG) (w : Wd) (x0 Z : Nat) (S : QS) (hR : RLQ G w x0 Z S) (hW : WF S) (hZx : x0 + 52 ≤ Z) (x : Int32) (v : Bool) : XM l yX11_hear wsX11_hear (rmD 3) N0 G [.ref x0, .int x, .int (bI v)] w vI (fun r w1 => (o_hear S x v).1 = r ∧ RLQ G w1 x0 Z (o_hear S x v).2 ∧ Out w w1 x0 (x0 + 52)) 0 0 := by
  refine XM.of (cc := cX11_hear) (maxL := 3) (ret := (some .int)) (by decide) rfl (Nat.le_of_ble_eq_true rfl) ?_
  intro p e s m below meth c hx hb hr hlk hin0 hml hown hts hN hw hG hS ls hl
  have hown : s.vm.findClass RX11 = some m.cls := hown
  have hiX11 : ∀ x ∈ u_ws RX11 TX11 9, x ∈ wsX11_hear := by decide +kernel
  have hlnk0 := hts (.fieldLink RX11 19 "LentQuill" "town" "LLentQuill$Town;") (by decide +kernel)
  have hlnk1 := hts (.fieldLink RX11 26 "LentQuill" "books" "LLentQuill$Books;") (by decide +kernel)
  have hl : lh ls 3 [some (.ref x0), some (.int x), some (.int (bI v))] := hl
  obtain ⟨hx0, hPg, hTn, hBk, ⟨Bi, hBi, hBie⟩, ⟨hs, Ts, fw, fr, hSr⟩, ⟨dsF, hdF, F, hFr⟩⟩ := id hR
  obtain ⟨h5, hlim⟩ := hTn.five
  have hsn : sn S = (sP S).length := rfl
  have hpgc := hPg.cell
  have htnc := hTn.cell
  have hbkc := hBk.cell
  have hbic := hBi.cell
  have hsrc := hSr.cell
  have hfrc := hFr.1
  obtain ⟨hd6, hh6, hdw⟩ := hBk.six
  have hsd : (sd S).length = (sB S).2.1.length := rfl
  have hsh : (sh S).length = (sB S).2.2.length := rfl
  rcases hear_cases S x with ⟨i, hi, hi31, hlt, rfl⟩ | ⟨i, hi, hi31, hlt, rfl⟩ | hx1
  · skip
    refine xaload_n hx hb dX11_hear_0 hl rfl ?_
    refine xget (C := RX11) (T := TX11) (N := 9) hx hb (ci := 11) hts hiX11 hown hG hw (by repeat first | assumption | exact wu_eq _ _ _ | refine wu_ne (by omega) ?_) rfl 1 (by decide) hlnk0 (fun _ h9 => h9) rfl dX11_hear_1 ?_
    refine xiload_n hx hb dX11_hear_4 hl rfl ?_
    refine xVr ⟨hx, hb, hml, hown, hts⟩ (kX10_one l N0 G _ _ Z _ _ hTn i hi) (cwV 1 hts gX11_hear_X10_one rfl rfl rfl (by decide +kernel) ⟨Nat.le_of_ble_eq_true rfl, Nat.le_of_ble_eq_true rfl⟩) hG hN hw hS (ci := 10) (by repeat first | assumption | exact wu_eq _ _ _ | refine wu_ne (by omega) ?_) rfl rfl hl.1 rfl (Nat.le_of_ble_eq_true rfl) dX11_hear_5 ⟨Nat.le_of_ble_eq_true rfl, Nat.le_of_ble_eq_true rfl⟩ (fun r5 w5 H locs hp5 hw hS => ?_)
    obtain ⟨⟨q, rfl, hqZ, hq⟩, rfl⟩ := hp5
    refine xrf rfl ?_
    refine lv_ifnonnull (tgt := 14) hx hb dX11_hear_8 (by decide) ?_
    refine xaload_n hx hb dX11_hear_14 hl rfl ?_
    refine xget (C := RX11) (T := TX11) (N := 9) hx hb (ci := 11) hts hiX11 hown hG hw (by repeat first | assumption | exact wu_eq _ _ _ | refine wu_ne (by omega) ?_) rfl 2 (by decide) hlnk1 (fun _ h9 => h9) rfl dX11_hear_15 ?_
    refine xiload_n hx hb dX11_hear_18 hl rfl ?_
    refine xiload_n hx hb dX11_hear_19 hl rfl ?_
    refine xVi ⟨hx, hb, hml, hown, hts⟩ (kX2_addHeard l N0 G _ _ _ _ _ hBk i v (by omega) hlt) (cwV 2 hts gX11_hear_X2_addHeard rfl rfl rfl (by decide +kernel) ⟨Nat.le_of_ble_eq_true rfl, Nat.le_of_ble_eq_true rfl⟩) hG hN hw hS (ci := 2) (by repeat first | assumption | exact wu_eq _ _ _ | refine wu_ne (by omega) ?_) rfl rfl hl.1 rfl (Nat.le_of_ble_eq_true rfl) dX11_hear_20 ⟨Nat.le_of_ble_eq_true rfl, Nat.le_of_ble_eq_true rfl⟩ (fun r20 w20 H locs hp20 hw hS => ?_)
    obtain ⟨rfl, hB2, hO2⟩ := hp20
    have hx2 := hO2.at (by omega) hx0
    have hb2 := hB2.cell
    first | refine xifb_eq (tgt := 36) hx hb dX11_hear_23 (by decide) (fun c23 => ?_) (fun c23 => ?_) | refine xif_eq (tgt := 36) hx hb dX11_hear_23 (by decide) (by omega) (fun c23 => ?_) (fun c23 => ?_) | refine lv_if_eq (tgt := 36) hx hb dX11_hear_23 (by decide) (fun c23 => ?_) (fun c23 => ?_)
    · skip
      exfalso
      cases c23
    · skip
      refine xaload_n hx hb dX11_hear_26 hl rfl ?_
      refine xget (C := RX11) (T := TX11) (N := 9) hx hb (ci := 11) hts hiX11 hown hG hw (by repeat first | assumption | exact wu_eq _ _ _ | refine wu_ne (by omega) ?_) rfl 2 (by decide) hlnk1 (fun _ h9 => h9) rfl dX11_hear_27 ?_
      refine xVi ⟨hx, hb, hml, hown, hts⟩ (kX2_heard l N0 G _ _ _ _ _ hB2) (cwV 0 hts gX11_hear_X2_heard rfl rfl rfl (by decide +kernel) ⟨Nat.le_of_ble_eq_true rfl, Nat.le_of_ble_eq_true rfl⟩) hG hN hw hS (ci := 2) (by repeat first | assumption | exact wu_eq _ _ _ | refine wu_ne (by omega) ?_) rfl rfl hl.1 rfl (Nat.le_of_ble_eq_true rfl) dX11_hear_30 ⟨Nat.le_of_ble_eq_true rfl, Nat.le_of_ble_eq_true rfl⟩ (fun r30 w30 H locs hp30 hw hS => ?_)
      obtain ⟨rfl, rfl⟩ := hp30
      refine lv_goto (tgt := 38) hx hb dX11_hear_33 (by decide) ?_
      exact xiret hx hb hr hlk hw hS dX11_hear_38 ⟨by rw [hear_y hi hi31 hlt, List.length_append]; rfl, by rw [hear_y hi hi31 hlt]; exact hR.bks (hO2.mono (by omega) (by omega)) hB2 hZx, hO2.mono (by omega) (by omega)⟩
  · skip
    refine xaload_n hx hb dX11_hear_0 hl rfl ?_
    refine xget (C := RX11) (T := TX11) (N := 9) hx hb (ci := 11) hts hiX11 hown hG hw (by repeat first | assumption | exact wu_eq _ _ _ | refine wu_ne (by omega) ?_) rfl 1 (by decide) hlnk0 (fun _ h9 => h9) rfl dX11_hear_1 ?_
    refine xiload_n hx hb dX11_hear_4 hl rfl ?_
    refine xVr ⟨hx, hb, hml, hown, hts⟩ (kX10_one l N0 G _ _ Z _ _ hTn i hi) (cwV 1 hts gX11_hear_X10_one rfl rfl rfl (by decide +kernel) ⟨Nat.le_of_ble_eq_true rfl, Nat.le_of_ble_eq_true rfl⟩) hG hN hw hS (ci := 10) (by repeat first | assumption | exact wu_eq _ _ _ | refine wu_ne (by omega) ?_) rfl rfl hl.1 rfl (Nat.le_of_ble_eq_true rfl) dX11_hear_5 ⟨Nat.le_of_ble_eq_true rfl, Nat.le_of_ble_eq_true rfl⟩ (fun r5 w5 H locs hp5 hw hS => ?_)
    obtain ⟨⟨q, rfl, hqZ, hq⟩, rfl⟩ := hp5
    refine xrf rfl ?_
    refine lv_ifnonnull (tgt := 14) hx hb dX11_hear_8 (by decide) ?_
    refine xaload_n hx hb dX11_hear_14 hl rfl ?_
    refine xget (C := RX11) (T := TX11) (N := 9) hx hb (ci := 11) hts hiX11 hown hG hw (by repeat first | assumption | exact wu_eq _ _ _ | refine wu_ne (by omega) ?_) rfl 2 (by decide) hlnk1 (fun _ h9 => h9) rfl dX11_hear_15 ?_
    refine xiload_n hx hb dX11_hear_18 hl rfl ?_
    refine xiload_n hx hb dX11_hear_19 hl rfl ?_
    refine xVi ⟨hx, hb, hml, hown, hts⟩ (kX2_addHeard_full l N0 G _ _ _ _ _ hBk _ _ hlt) (cwV 2 hts gX11_hear_X2_addHeard rfl rfl rfl (by decide +kernel) ⟨Nat.le_of_ble_eq_true rfl, Nat.le_of_ble_eq_true rfl⟩) hG hN hw hS (ci := 2) (by repeat first | assumption | exact wu_eq _ _ _ | refine wu_ne (by omega) ?_) rfl rfl hl.1 rfl (Nat.le_of_ble_eq_true rfl) dX11_hear_20 ⟨Nat.le_of_ble_eq_true rfl, Nat.le_of_ble_eq_true rfl⟩ (fun r20 w20 H locs hp20 hw hS => ?_)
    obtain ⟨rfl, rfl⟩ := hp20
    first | refine xifb_eq (tgt := 36) hx hb dX11_hear_23 (by decide) (fun c23 => ?_) (fun c23 => ?_) | refine xif_eq (tgt := 36) hx hb dX11_hear_23 (by decide) (by omega) (fun c23 => ?_) (fun c23 => ?_) | refine lv_if_eq (tgt := 36) hx hb dX11_hear_23 (by decide) (fun c23 => ?_) (fun c23 => ?_)
    · skip
      refine lv_bipush (v := -104) hx hb dX11_hear_36 (by decide) ?_
      exact xiret hx hb hr hlk hw hS dX11_hear_38 ⟨by rw [hear_f hi hi31 hlt], by rw [hear_f hi hi31 hlt]; exact hR, Out.rf⟩
    · skip
      exfalso
      cases c23
  · skip
    refine xaload_n hx hb dX11_hear_0 hl rfl ?_
    refine xget (C := RX11) (T := TX11) (N := 9) hx hb (ci := 11) hts hiX11 hown hG hw (by repeat first | assumption | exact wu_eq _ _ _ | refine wu_ne (by omega) ?_) rfl 1 (by decide) hlnk0 (fun _ h9 => h9) rfl dX11_hear_1 ?_
    refine xiload_n hx hb dX11_hear_4 hl rfl ?_
    refine xVr ⟨hx, hb, hml, hown, hts⟩ (kX10_one_out l N0 G _ _ Z _ _ hTn _ hx1) (cwV 1 hts gX11_hear_X10_one rfl rfl rfl (by decide +kernel) ⟨Nat.le_of_ble_eq_true rfl, Nat.le_of_ble_eq_true rfl⟩) hG hN hw hS (ci := 10) (by repeat first | assumption | exact wu_eq _ _ _ | refine wu_ne (by omega) ?_) rfl rfl hl.1 rfl (Nat.le_of_ble_eq_true rfl) dX11_hear_5 ⟨Nat.le_of_ble_eq_true rfl, Nat.le_of_ble_eq_true rfl⟩ (fun r5 w5 H locs hp5 hw hS => ?_)
    obtain ⟨rfl, rfl⟩ := hp5
    refine xrn rfl ?_
    refine lv_ifnonnullN hx hb dX11_hear_8 ?_
    refine lv_bipush (v := -101) hx hb dX11_hear_11 (by decide) ?_
    exact xiret hx hb hr hlk hw hS dX11_hear_13 ⟨by rw [o_hear, onR_out hx1], by rw [o_hear, onR_out hx1]; exact hR, Out.rf⟩
set_option maxHeartbeats 4000000 in
set_option maxRecDepth 100000 in
theorem kX11_forget (l : Launch) (N0 : Nat) (G : XG) (w : Wd) (x0 Z : Nat) (S : QS) (hR : RLQ G w x0 Z S) (hW : WF S) (hZx : x0 + 52 ≤ Z) : XM l yX11_forget wsX11_forget (rmD 2) N0 G [.ref x0] w vI (fun r w1 => nI (sh S).length = r ∧ RLQ G w1 x0 Z (forS S) ∧ Out w w1 x0 (x0 + 52)) 0 0 := by
  refine XM.of (cc := cX11_forget) (maxL := 2) (ret := (some .int)) (by decide) rfl (Nat.le_of_ble_eq_true rfl) ?_
  intro p e s m below meth c hx hb hr hlk hin0 hml hown hts hN hw hG hS ls hl
  have hown : s.vm.findClass RX11 = some m.cls := hown
  have hiX11 : ∀ x ∈ u_ws RX11 TX11 9, x ∈ wsX11_forget := by decide +kernel
  have hlnk0 := hts (.fieldLink RX11 26 "LentQuill" "books" "LLentQuill$Books;") (by decide +kernel)
  have hl : lh ls 2 [some (.ref x0), none] := hl
  obtain ⟨hx0, hPg, hTn, hBk, ⟨Bi, hBi, hBie⟩, ⟨hs, Ts, fw, fr, hSr⟩, ⟨dsF, hdF, F, hFr⟩⟩ := id hR
  obtain ⟨h5, hlim⟩ := hTn.five
  have hsn : sn S = (sP S).length := rfl
  have hpgc := hPg.cell
  have htnc := hTn.cell
  have hbkc := hBk.cell
  have hbic := hBi.cell
  have hsrc := hSr.cell
  have hfrc := hFr.1
  obtain ⟨hd6, hh6, hdw⟩ := hBk.six
  have hsd : (sd S).length = (sB S).2.1.length := rfl
  have hsh : (sh S).length = (sB S).2.2.length := rfl
  refine xaload_n hx hb dX11_forget_0 hl rfl ?_
  refine xget (C := RX11) (T := TX11) (N := 9) hx hb (ci := 11) hts hiX11 hown hG hw (by repeat first | assumption | exact wu_eq _ _ _ | refine wu_ne (by omega) ?_) rfl 2 (by decide) hlnk0 (fun _ h9 => h9) rfl dX11_forget_1 ?_
  refine xVi ⟨hx, hb, hml, hown, hts⟩ (kX2_heard l N0 G _ _ _ _ _ hBk) (cwV 0 hts gX11_forget_X2_heard rfl rfl rfl (by decide +kernel) ⟨Nat.le_of_ble_eq_true rfl, Nat.le_of_ble_eq_true rfl⟩) hG hN hw hS (ci := 2) (by repeat first | assumption | exact wu_eq _ _ _ | refine wu_ne (by omega) ?_) rfl rfl hl.1 rfl (Nat.le_of_ble_eq_true rfl) dX11_forget_4 ⟨Nat.le_of_ble_eq_true rfl, Nat.le_of_ble_eq_true rfl⟩ (fun r4 w4 H locs hp4 hw hS => ?_)
  obtain ⟨rfl, rfl⟩ := hp4
  refine xistore_n hx hb dX11_forget_7 hl (by decide) rfl (fun ls hl => ?_)
  refine xaload_n hx hb dX11_forget_8 hl rfl ?_
  refine xget (C := RX11) (T := TX11) (N := 9) hx hb (ci := 11) hts hiX11 hown hG hw (by repeat first | assumption | exact wu_eq _ _ _ | refine wu_ne (by omega) ?_) rfl 2 (by decide) hlnk0 (fun _ h9 => h9) rfl dX11_forget_9 ?_
  refine xVv ⟨hx, hb, hml, hown, hts⟩ (kX2_clearHeard l N0 G _ _ _ _ _ hBk) (cwV 0 hts gX11_forget_X2_clearHeard rfl rfl rfl (by decide +kernel) ⟨Nat.le_of_ble_eq_true rfl, Nat.le_of_ble_eq_true rfl⟩) hG hN hw hS (ci := 2) (by repeat first | assumption | exact wu_eq _ _ _ | refine wu_ne (by omega) ?_) rfl rfl hl.1 rfl (Nat.le_of_ble_eq_true rfl) dX11_forget_12 ⟨Nat.le_of_ble_eq_true rfl, Nat.le_of_ble_eq_true rfl⟩ (fun r12 w12 H locs hp12 hw hS => ?_)
  obtain ⟨hB2, hO2⟩ := hp12
  refine xiload_n hx hb dX11_forget_15 hl rfl ?_
  exact xiret hx hb hr hlk hw hS dX11_forget_16 ⟨rfl, hR.bks (hO2.mono (by omega) (by omega)) (B := ((sB S).1, sd S, [])) hB2 hZx, hO2.mono (by omega) (by omega)⟩
set_option maxHeartbeats 4000000 in
set_option maxRecDepth 100000 in
theorem kX11_image (l : Launch) (N0 : Nat) (G : XG) (w : Wd) (x0 Z : Nat) (S : QS) (hR : RLQ G w x0 Z S) (hW : WF S) (hZx : x0 + 52 ≤ Z) : XM l yX11_image wsX11_image (rmD 4) N0 G [.ref x0] w vI (fun r w1 => (o_image S).1 = r ∧ RLQ G w1 x0 Z (o_image S).2 ∧ Out w w1 x0 (x0 + 52)) 0 0 := by
  refine XM.of (cc := cX11_image) (maxL := 1) (ret := (some .int)) (by decide) rfl (Nat.le_of_ble_eq_true rfl) ?_
  intro p e s m below meth c hx hb hr hlk hin0 hml hown hts hN hw hG hS ls hl
  have hown : s.vm.findClass RX11 = some m.cls := hown
  have hiX11 : ∀ x ∈ u_ws RX11 TX11 9, x ∈ wsX11_image := by decide +kernel
  have hlnk0 := hts (.fieldLink RX11 19 "LentQuill" "town" "LLentQuill$Town;") (by decide +kernel)
  have hlnk1 := hts (.fieldLink RX11 30 "LentQuill" "image" "LLentQuill$Books;") (by decide +kernel)
  have hlnk2 := hts (.fieldLink RX11 26 "LentQuill" "books" "LLentQuill$Books;") (by decide +kernel)
  have hlnk3 := hts (.fieldLink RX11 70 "LentQuill" "imageKept" "Z") (by decide +kernel)
  have hl : lh ls 1 [some (.ref x0)] := hl
  obtain ⟨hx0, hPg, hTn, hBk, ⟨Bi, hBi, hBie⟩, ⟨hs, Ts, fw, fr, hSr⟩, ⟨dsF, hdF, F, hFr⟩⟩ := id hR
  obtain ⟨h5, hlim⟩ := hTn.five
  have hsn : sn S = (sP S).length := rfl
  have hpgc := hPg.cell
  have htnc := hTn.cell
  have hbkc := hBk.cell
  have hbic := hBi.cell
  have hsrc := hSr.cell
  have hfrc := hFr.1
  obtain ⟨hd6, hh6, hdw⟩ := hBk.six
  have hsd : (sd S).length = (sB S).2.1.length := rfl
  have hsh : (sh S).length = (sB S).2.2.length := rfl
  refine xaload_n hx hb dX11_image_0 hl rfl ?_
  refine xget (C := RX11) (T := TX11) (N := 9) hx hb (ci := 11) hts hiX11 hown hG hw (by repeat first | assumption | exact wu_eq _ _ _ | refine wu_ne (by omega) ?_) rfl 1 (by decide) hlnk0 (fun _ h9 => h9) rfl dX11_image_1 ?_
  refine xVi ⟨hx, hb, hml, hown, hts⟩ (kX10_isEmpty l N0 G _ _ Z _ _ hTn) (cwV 0 hts gX11_image_X10_isEmpty rfl rfl rfl (by decide +kernel) ⟨Nat.le_of_ble_eq_true rfl, Nat.le_of_ble_eq_true rfl⟩) hG hN hw hS (ci := 10) (by repeat first | assumption | exact wu_eq _ _ _ | refine wu_ne (by omega) ?_) rfl rfl hl.1 rfl (Nat.le_of_ble_eq_true rfl) dX11_image_4 ⟨Nat.le_of_ble_eq_true rfl, Nat.le_of_ble_eq_true rfl⟩ (fun r4 w4 H locs hp4 hw hS => ?_)
  obtain ⟨rfl, rfl⟩ := hp4
  first | refine xifb_eq (tgt := 13) hx hb dX11_image_7 (by decide) (fun c7 => ?_) (fun c7 => ?_) | refine xif_eq (tgt := 13) hx hb dX11_image_7 (by decide) (by omega) (fun c7 => ?_) (fun c7 => ?_) | refine lv_if_eq (tgt := 13) hx hb dX11_image_7 (by decide) (fun c7 => ?_) (fun c7 => ?_)
  · skip
    have d7 : ¬ sn S = 0 := of_decide_eq_false c7
    refine xaload_n hx hb dX11_image_13 hl rfl ?_
    refine xget (C := RX11) (T := TX11) (N := 9) hx hb (ci := 11) hts hiX11 hown hG hw (by repeat first | assumption | exact wu_eq _ _ _ | refine wu_ne (by omega) ?_) rfl 3 (by decide) hlnk1 (fun _ h9 => h9) rfl dX11_image_14 ?_
    refine xaload_n hx hb dX11_image_17 hl rfl ?_
    refine xget (C := RX11) (T := TX11) (N := 9) hx hb (ci := 11) hts hiX11 hown hG hw (by repeat first | assumption | exact wu_eq _ _ _ | refine wu_ne (by omega) ?_) rfl 2 (by decide) hlnk2 (fun _ h9 => h9) rfl dX11_image_18 ?_
    refine xVv ⟨hx, hb, hml, hown, hts⟩ (kX2_copyFrom l N0 G _ _ _ _ _ hBi _ _ _ _ hBk (by omega)) (cwV 1 hts gX11_image_X2_copyFrom rfl rfl rfl (by decide +kernel) ⟨Nat.le_of_ble_eq_true rfl, Nat.le_of_ble_eq_true rfl⟩) hG hN hw hS (ci := 2) (by repeat first | assumption | exact wu_eq _ _ _ | refine wu_ne (by omega) ?_) rfl rfl hl.1 rfl (Nat.le_of_ble_eq_true rfl) dX11_image_21 ⟨Nat.le_of_ble_eq_true rfl, Nat.le_of_ble_eq_true rfl⟩ (fun r21 w21 H locs hp21 hw hS => ?_)
    obtain ⟨hB2, hO2⟩ := hp21
    have hx2 := hO2.at (by omega) hx0
    have hR2 := hR.img hO2 hB2 hZx
    have hbk2 := hR2.2.2.2.1
    have hbkc2 := hbk2.cell
    have hx3 := hR2.1
    refine xaload_n hx hb dX11_image_24 hl rfl ?_
    refine lv_iconst (v := nI 1) hx hb dX11_image_25 (by decide) ?_
    refine xput (C := RX11) (T := TX11) (N := 9) hx hb (ci := 11) (ty := .boolean) hts hiX11 tyX11 tyX11_ok nmX11 hown hG hw hS (by repeat first | assumption | exact wu_eq _ _ _ | refine wu_ne (by omega) ?_) rfl 6 (by decide) hlnk3 (fun _ h9 => h9) rfl (by decide +kernel) rfl rfl (Nat.le_of_ble_eq_true rfl) dX11_image_26 (fun H locs hzz hw hS => ?_)
    refine xaload_n hx hb dX11_image_29 hl rfl ?_
    refine xget (C := RX11) (T := TX11) (N := 9) hx hb (ci := 11) hts hiX11 hown hG hw (by repeat first | assumption | exact wu_eq _ _ _ | refine wu_ne (by omega) ?_) rfl 2 (by decide) hlnk2 (fun _ h9 => h9) rfl dX11_image_30 ?_
    refine xVi ⟨hx, hb, hml, hown, hts⟩ (kX2_timesLent l N0 G _ _ _ _ _ hbk2) (cwV 0 hts gX11_image_X2_timesLent rfl rfl rfl (by decide +kernel) ⟨Nat.le_of_ble_eq_true rfl, Nat.le_of_ble_eq_true rfl⟩) hG hN hw hS (ci := 2) hbkc2 rfl rfl hl.1 rfl (Nat.le_of_ble_eq_true rfl) dX11_image_33 ⟨Nat.le_of_ble_eq_true rfl, Nat.le_of_ble_eq_true rfl⟩ (fun r33 w33 H locs hp33 hw hS => ?_)
    obtain ⟨rfl, rfl⟩ := hp33
    exact xiret hx hb hr hlk hw hS dX11_image_36 ⟨by rw [o_image, if_neg d7]; exact congrArg nI (lent5 hW.1 h5).symm, by rw [o_image, if_neg d7]; exact hR2, (hO2.mono (by omega) (by omega)).wu (by omega) (by omega)⟩
  · skip
    have d7 : sn S = 0 := of_decide_eq_true c7
    refine lv_bipush (v := -103) hx hb dX11_image_10 (by decide) ?_
    exact xiret hx hb hr hlk hw hS dX11_image_12 ⟨by rw [o_image, if_pos d7], by rw [o_image, if_pos d7]; exact hR, Out.rf⟩
set_option maxHeartbeats 4000000 in
set_option maxRecDepth 100000 in
theorem kX11_restore (l : Launch) (N0 : Nat) (G : XG) (w : Wd) (x0 Z : Nat) (S : QS) (hR : RLQ G w x0 Z S) (hW : WF S) (hZx : x0 + 52 ≤ Z) : XM l yX11_restore wsX11_restore (rmD 4) N0 G [.ref x0] w vI (fun r w1 => (o_restore S).1 = r ∧ RLQ G w1 x0 Z (o_restore S).2 ∧ Out w w1 x0 (x0 + 52)) 0 0 := by
  refine XM.of (cc := cX11_restore) (maxL := 1) (ret := (some .int)) (by decide) rfl (Nat.le_of_ble_eq_true rfl) ?_
  intro p e s m below meth c hx hb hr hlk hin0 hml hown hts hN hw hG hS ls hl
  have hown : s.vm.findClass RX11 = some m.cls := hown
  have hiX11 : ∀ x ∈ u_ws RX11 TX11 9, x ∈ wsX11_restore := by decide +kernel
  have hlnk0 := hts (.fieldLink RX11 70 "LentQuill" "imageKept" "Z") (by decide +kernel)
  have hlnk1 := hts (.fieldLink RX11 26 "LentQuill" "books" "LLentQuill$Books;") (by decide +kernel)
  have hlnk2 := hts (.fieldLink RX11 30 "LentQuill" "image" "LLentQuill$Books;") (by decide +kernel)
  have hl : lh ls 1 [some (.ref x0)] := hl
  obtain ⟨hx0, hPg, hTn, hBk, ⟨Bi, hBi, hBie⟩, ⟨hs, Ts, fw, fr, hSr⟩, ⟨dsF, hdF, F, hFr⟩⟩ := id hR
  obtain ⟨h5, hlim⟩ := hTn.five
  have hsn : sn S = (sP S).length := rfl
  have hpgc := hPg.cell
  have htnc := hTn.cell
  have hbkc := hBk.cell
  have hbic := hBi.cell
  have hsrc := hSr.cell
  have hfrc := hFr.1
  obtain ⟨hd6, hh6, hdw⟩ := hBk.six
  have hsd : (sd S).length = (sB S).2.1.length := rfl
  have hsh : (sh S).length = (sB S).2.2.length := rfl
  refine xaload_n hx hb dX11_restore_0 hl rfl ?_
  refine xget (C := RX11) (T := TX11) (N := 9) hx hb (ci := 11) hts hiX11 hown hG hw (by repeat first | assumption | exact wu_eq _ _ _ | refine wu_ne (by omega) ?_) rfl 6 (by decide) hlnk0 (fun _ h9 => h9) rfl dX11_restore_1 ?_
  first | refine xifb_ne (tgt := 10) hx hb dX11_restore_4 (by decide) (fun c4 => ?_) (fun c4 => ?_) | refine xif_ne (tgt := 10) hx hb dX11_restore_4 (by decide) (by omega) (fun c4 => ?_) (fun c4 => ?_) | refine lv_if_ne (tgt := 10) hx hb dX11_restore_4 (by decide) (fun c4 => ?_) (fun c4 => ?_)
  · skip
    refine xaload_n hx hb dX11_restore_10 hl rfl ?_
    refine xget (C := RX11) (T := TX11) (N := 9) hx hb (ci := 11) hts hiX11 hown hG hw (by repeat first | assumption | exact wu_eq _ _ _ | refine wu_ne (by omega) ?_) rfl 2 (by decide) hlnk1 (fun _ h9 => h9) rfl dX11_restore_11 ?_
    refine xaload_n hx hb dX11_restore_14 hl rfl ?_
    refine xget (C := RX11) (T := TX11) (N := 9) hx hb (ci := 11) hts hiX11 hown hG hw (by repeat first | assumption | exact wu_eq _ _ _ | refine wu_ne (by omega) ?_) rfl 3 (by decide) hlnk2 (fun _ h9 => h9) rfl dX11_restore_15 ?_
    obtain ⟨B2, hB2e⟩ : ∃ B, sI S = some B := Option.isSome_iff_exists.mp c4
    obtain rfl := hBie B2 hB2e
    refine xVv ⟨hx, hb, hml, hown, hts⟩ (kX2_copyFrom l N0 G _ _ _ _ _ hBk _ _ _ _ hBi (by omega)) (cwV 1 hts gX11_restore_X2_copyFrom rfl rfl rfl (by decide +kernel) ⟨Nat.le_of_ble_eq_true rfl, Nat.le_of_ble_eq_true rfl⟩) hG hN hw hS (ci := 2) (by repeat first | assumption | exact wu_eq _ _ _ | refine wu_ne (by omega) ?_) rfl rfl hl.1 rfl (Nat.le_of_ble_eq_true rfl) dX11_restore_18 ⟨Nat.le_of_ble_eq_true rfl, Nat.le_of_ble_eq_true rfl⟩ (fun r18 w18 H locs hp18 hw hS => ?_)
    obtain ⟨hB2, hO2⟩ := hp18
    have hx2 := hO2.at (by omega) hx0
    have hbkc2 := hB2.cell
    refine xaload_n hx hb dX11_restore_21 hl rfl ?_
    refine xget (C := RX11) (T := TX11) (N := 9) hx hb (ci := 11) hts hiX11 hown hG hw (by repeat first | assumption | exact wu_eq _ _ _ | refine wu_ne (by omega) ?_) rfl 2 (by decide) hlnk1 (fun _ h9 => h9) rfl dX11_restore_22 ?_
    refine xVi ⟨hx, hb, hml, hown, hts⟩ (kX2_timesLent l N0 G _ _ _ _ _ hB2) (cwV 0 hts gX11_restore_X2_timesLent rfl rfl rfl (by decide +kernel) ⟨Nat.le_of_ble_eq_true rfl, Nat.le_of_ble_eq_true rfl⟩) hG hN hw hS (ci := 2) (by repeat first | assumption | exact wu_eq _ _ _ | refine wu_ne (by omega) ?_) rfl rfl hl.1 rfl (Nat.le_of_ble_eq_true rfl) dX11_restore_25 ⟨Nat.le_of_ble_eq_true rfl, Nat.le_of_ble_eq_true rfl⟩ (fun r25 w25 H locs hp25 hw hS => ?_)
    obtain ⟨rfl, rfl⟩ := hp25
    exact xiret hx hb hr hlk hw hS dX11_restore_28 ⟨by rw [rest_y hB2e]; exact congrArg nI (lent5 (hW.2.1 _ hB2e) h5).symm, by rw [rest_y hB2e]; exact hR.bks (hO2.mono (by omega) (by omega)) hB2 hZx, hO2.mono (by omega) (by omega)⟩
  · skip
    refine lv_bipush (v := -103) hx hb dX11_restore_7 (by decide) ?_
    exact xiret hx hb hr hlk hw hS dX11_restore_9 ⟨by rw [rest_n c4], by rw [rest_n c4]; exact hR, Out.rf⟩
set_option maxHeartbeats 4000000 in
set_option maxRecDepth 100000 in
theorem kX11_count (l : Launch) (N0 : Nat) (G : XG) (w : Wd) (x0 Z : Nat) (S : QS) (hR : RLQ G w x0 Z S) (hW : WF S) (hZx : x0 + 52 ≤ Z) (x : Int32) : XM l yX11_count wsX11_count (rmD 4) N0 G [.ref x0, .int x] w vI (fun r w1 => v_count S x = r ∧ w = w1) 0 0 := by
  refine XM.of (cc := cX11_count) (maxL := 2) (ret := (some .int)) (by decide) rfl (Nat.le_of_ble_eq_true rfl) ?_
  intro p e s m below meth c hx hb hr hlk hin0 hml hown hts hN hw hG hS ls hl
  have hown : s.vm.findClass RX11 = some m.cls := hown
  have hiX11 : ∀ x ∈ u_ws RX11 TX11 9, x ∈ wsX11_count := by decide +kernel
  have hlnk0 := hts (.fieldLink RX11 19 "LentQuill" "town" "LLentQuill$Town;") (by decide +kernel)
  have hlnk1 := hts (.fieldLink RX11 26 "LentQuill" "books" "LLentQuill$Books;") (by decide +kernel)
  have hlnk2 := hts (.fieldLink RX11 10 "LentQuill" "page" "LLentQuill$Page;") (by decide +kernel)
  have hlnk3 := hts (.fieldLink RX11 74 "LentQuill" "townsRead" "I") (by decide +kernel)
  have hlnk4 := hts (.fieldLink RX11 174 "LentQuill" "waysDone" "I") (by decide +kernel)
  have hl : lh ls 2 [some (.ref x0), some (.int x)] := hl
  obtain ⟨hx0, hPg, hTn, hBk, ⟨Bi, hBi, hBie⟩, ⟨hs, Ts, fw, fr, hSr⟩, ⟨dsF, hdF, F, hFr⟩⟩ := id hR
  obtain ⟨h5, hlim⟩ := hTn.five
  have hsn : sn S = (sP S).length := rfl
  have hpgc := hPg.cell
  have htnc := hTn.cell
  have hbkc := hBk.cell
  have hbic := hBi.cell
  have hsrc := hSr.cell
  have hfrc := hFr.1
  obtain ⟨hd6, hh6, hdw⟩ := hBk.six
  have hsd : (sd S).length = (sB S).2.1.length := rfl
  have hsh : (sh S).length = (sB S).2.2.length := rfl
  refine xiload_n hx hb dX11_count_0 hl rfl ?_
  rcases sw9 x with rfl | rfl | rfl | rfl | rfl | rfl | rfl | rfl | rfl | hx1
  · skip
    refine lv_tableIn (off := 51) (tgt := 52) hx hb dX11_count_1 (by decide) (by decide) (by decide) (by decide) ?_
    refine xaload_n hx hb dX11_count_52 hl rfl ?_
    refine xget (C := RX11) (T := TX11) (N := 9) hx hb (ci := 11) hts hiX11 hown hG hw (by repeat first | assumption | exact wu_eq _ _ _ | refine wu_ne (by omega) ?_) rfl 1 (by decide) hlnk0 (fun _ h9 => h9) rfl dX11_count_53 ?_
    refine xVi ⟨hx, hb, hml, hown, hts⟩ (kX10_size l N0 G _ _ Z _ _ hTn) (cwV 0 hts gX11_count_X10_size rfl rfl rfl (by decide +kernel) ⟨Nat.le_of_ble_eq_true rfl, Nat.le_of_ble_eq_true rfl⟩) hG hN hw hS (ci := 10) (by repeat first | assumption | exact wu_eq _ _ _ | refine wu_ne (by omega) ?_) rfl rfl hl.1 rfl (Nat.le_of_ble_eq_true rfl) dX11_count_56 ⟨Nat.le_of_ble_eq_true rfl, Nat.le_of_ble_eq_true rfl⟩ (fun r56 w56 H locs hp56 hw hS => ?_)
    obtain ⟨rfl, rfl⟩ := hp56
    exact xiret hx hb hr hlk hw hS dX11_count_59 ⟨by rw [v_count, onR_in (by omega) (by omega)]; rfl, rfl⟩
  · skip
    refine lv_tableIn (off := 59) (tgt := 60) hx hb dX11_count_1 (by decide) (by decide) (by decide) (by decide) ?_
    refine xaload_n hx hb dX11_count_60 hl rfl ?_
    refine xget (C := RX11) (T := TX11) (N := 9) hx hb (ci := 11) hts hiX11 hown hG hw (by repeat first | assumption | exact wu_eq _ _ _ | refine wu_ne (by omega) ?_) rfl 1 (by decide) hlnk0 (fun _ h9 => h9) rfl dX11_count_61 ?_
    refine xVi ⟨hx, hb, hml, hown, hts⟩ (kX10_limit l N0 G _ _ Z _ _ hTn) (cwV 0 hts gX11_count_X10_limit rfl rfl rfl (by decide +kernel) ⟨Nat.le_of_ble_eq_true rfl, Nat.le_of_ble_eq_true rfl⟩) hG hN hw hS (ci := 10) (by repeat first | assumption | exact wu_eq _ _ _ | refine wu_ne (by omega) ?_) rfl rfl hl.1 rfl (Nat.le_of_ble_eq_true rfl) dX11_count_64 ⟨Nat.le_of_ble_eq_true rfl, Nat.le_of_ble_eq_true rfl⟩ (fun r64 w64 H locs hp64 hw hS => ?_)
    obtain ⟨rfl, rfl⟩ := hp64
    exact xiret hx hb hr hlk hw hS dX11_count_67 ⟨by rw [v_count, onR_in (by omega) (by omega)]; rfl, rfl⟩
  · skip
    refine lv_tableIn (off := 67) (tgt := 68) hx hb dX11_count_1 (by decide) (by decide) (by decide) (by decide) ?_
    refine xaload_n hx hb dX11_count_68 hl rfl ?_
    refine xget (C := RX11) (T := TX11) (N := 9) hx hb (ci := 11) hts hiX11 hown hG hw (by repeat first | assumption | exact wu_eq _ _ _ | refine wu_ne (by omega) ?_) rfl 2 (by decide) hlnk1 (fun _ h9 => h9) rfl dX11_count_69 ?_
    refine xVi ⟨hx, hb, hml, hown, hts⟩ (kX2_timesLent l N0 G _ _ _ _ _ hBk) (cwV 0 hts gX11_count_X2_timesLent rfl rfl rfl (by decide +kernel) ⟨Nat.le_of_ble_eq_true rfl, Nat.le_of_ble_eq_true rfl⟩) hG hN hw hS (ci := 2) (by repeat first | assumption | exact wu_eq _ _ _ | refine wu_ne (by omega) ?_) rfl rfl hl.1 rfl (Nat.le_of_ble_eq_true rfl) dX11_count_72 ⟨Nat.le_of_ble_eq_true rfl, Nat.le_of_ble_eq_true rfl⟩ (fun r72 w72 H locs hp72 hw hS => ?_)
    obtain ⟨rfl, rfl⟩ := hp72
    exact xiret hx hb hr hlk hw hS dX11_count_75 ⟨by rw [v_count, onR_in (by omega) (by omega)]; exact congrArg nI (lent5 hW.1 h5).symm, rfl⟩
  · skip
    refine lv_tableIn (off := 75) (tgt := 76) hx hb dX11_count_1 (by decide) (by decide) (by decide) (by decide) ?_
    refine xaload_n hx hb dX11_count_76 hl rfl ?_
    refine xget (C := RX11) (T := TX11) (N := 9) hx hb (ci := 11) hts hiX11 hown hG hw (by repeat first | assumption | exact wu_eq _ _ _ | refine wu_ne (by omega) ?_) rfl 2 (by decide) hlnk1 (fun _ h9 => h9) rfl dX11_count_77 ?_
    refine xVi ⟨hx, hb, hml, hown, hts⟩ (kX2_deeds l N0 G _ _ _ _ _ hBk) (cwV 0 hts gX11_count_X2_deeds rfl rfl rfl (by decide +kernel) ⟨Nat.le_of_ble_eq_true rfl, Nat.le_of_ble_eq_true rfl⟩) hG hN hw hS (ci := 2) (by repeat first | assumption | exact wu_eq _ _ _ | refine wu_ne (by omega) ?_) rfl rfl hl.1 rfl (Nat.le_of_ble_eq_true rfl) dX11_count_80 ⟨Nat.le_of_ble_eq_true rfl, Nat.le_of_ble_eq_true rfl⟩ (fun r80 w80 H locs hp80 hw hS => ?_)
    obtain ⟨rfl, rfl⟩ := hp80
    exact xiret hx hb hr hlk hw hS dX11_count_83 ⟨by rw [v_count, onR_in (by omega) (by omega)]; rfl, rfl⟩
  · skip
    refine lv_tableIn (off := 83) (tgt := 84) hx hb dX11_count_1 (by decide) (by decide) (by decide) (by decide) ?_
    refine xaload_n hx hb dX11_count_84 hl rfl ?_
    refine xget (C := RX11) (T := TX11) (N := 9) hx hb (ci := 11) hts hiX11 hown hG hw (by repeat first | assumption | exact wu_eq _ _ _ | refine wu_ne (by omega) ?_) rfl 2 (by decide) hlnk1 (fun _ h9 => h9) rfl dX11_count_85 ?_
    refine xVi ⟨hx, hb, hml, hown, hts⟩ (kX2_voidDeeds l N0 G _ _ _ _ _ hBk) (cwV 0 hts gX11_count_X2_voidDeeds rfl rfl rfl (by decide +kernel) ⟨Nat.le_of_ble_eq_true rfl, Nat.le_of_ble_eq_true rfl⟩) hG hN hw hS (ci := 2) (by repeat first | assumption | exact wu_eq _ _ _ | refine wu_ne (by omega) ?_) rfl rfl hl.1 rfl (Nat.le_of_ble_eq_true rfl) dX11_count_88 ⟨Nat.le_of_ble_eq_true rfl, Nat.le_of_ble_eq_true rfl⟩ (fun r88 w88 H locs hp88 hw hS => ?_)
    obtain ⟨rfl, rfl⟩ := hp88
    exact xiret hx hb hr hlk hw hS dX11_count_91 ⟨by rw [v_count, onR_in (by omega) (by omega)]; rfl, rfl⟩
  · skip
    refine lv_tableIn (off := 91) (tgt := 92) hx hb dX11_count_1 (by decide) (by decide) (by decide) (by decide) ?_
    refine xaload_n hx hb dX11_count_92 hl rfl ?_
    refine xget (C := RX11) (T := TX11) (N := 9) hx hb (ci := 11) hts hiX11 hown hG hw (by repeat first | assumption | exact wu_eq _ _ _ | refine wu_ne (by omega) ?_) rfl 2 (by decide) hlnk1 (fun _ h9 => h9) rfl dX11_count_93 ?_
    refine xVi ⟨hx, hb, hml, hown, hts⟩ (kX2_heard l N0 G _ _ _ _ _ hBk) (cwV 0 hts gX11_count_X2_heard rfl rfl rfl (by decide +kernel) ⟨Nat.le_of_ble_eq_true rfl, Nat.le_of_ble_eq_true rfl⟩) hG hN hw hS (ci := 2) (by repeat first | assumption | exact wu_eq _ _ _ | refine wu_ne (by omega) ?_) rfl rfl hl.1 rfl (Nat.le_of_ble_eq_true rfl) dX11_count_96 ⟨Nat.le_of_ble_eq_true rfl, Nat.le_of_ble_eq_true rfl⟩ (fun r96 w96 H locs hp96 hw hS => ?_)
    obtain ⟨rfl, rfl⟩ := hp96
    exact xiret hx hb hr hlk hw hS dX11_count_99 ⟨by rw [v_count, onR_in (by omega) (by omega)]; rfl, rfl⟩
  · skip
    refine lv_tableIn (off := 99) (tgt := 100) hx hb dX11_count_1 (by decide) (by decide) (by decide) (by decide) ?_
    refine xaload_n hx hb dX11_count_100 hl rfl ?_
    refine xget (C := RX11) (T := TX11) (N := 9) hx hb (ci := 11) hts hiX11 hown hG hw (by repeat first | assumption | exact wu_eq _ _ _ | refine wu_ne (by omega) ?_) rfl 0 (by decide) hlnk2 (fun _ h9 => h9) rfl dX11_count_101 ?_
    refine xVi ⟨hx, hb, hml, hown, hts⟩ (kX5_size l N0 G _ _ _ hPg) (cwV 0 hts gX11_count_X5_size rfl rfl rfl (by decide +kernel) ⟨Nat.le_of_ble_eq_true rfl, Nat.le_of_ble_eq_true rfl⟩) hG hN hw hS (ci := 5) (by repeat first | assumption | exact wu_eq _ _ _ | refine wu_ne (by omega) ?_) rfl rfl hl.1 rfl (Nat.le_of_ble_eq_true rfl) dX11_count_104 ⟨Nat.le_of_ble_eq_true rfl, Nat.le_of_ble_eq_true rfl⟩ (fun r104 w104 H locs hp104 hw hS => ?_)
    obtain ⟨rfl, rfl⟩ := hp104
    exact xiret hx hb hr hlk hw hS dX11_count_107 ⟨by rw [v_count, onR_in (by omega) (by omega)]; rfl, rfl⟩
  · skip
    refine lv_tableIn (off := 107) (tgt := 108) hx hb dX11_count_1 (by decide) (by decide) (by decide) (by decide) ?_
    refine xaload_n hx hb dX11_count_108 hl rfl ?_
    refine xget (C := RX11) (T := TX11) (N := 9) hx hb (ci := 11) hts hiX11 hown hG hw (by repeat first | assumption | exact wu_eq _ _ _ | refine wu_ne (by omega) ?_) rfl 7 (by decide) hlnk3 (fun _ h9 => h9) rfl dX11_count_109 ?_
    exact xiret hx hb hr hlk hw hS dX11_count_112 ⟨by rw [v_count, onR_in (by omega) (by omega)]; rfl, rfl⟩
  · skip
    refine lv_tableIn (off := 112) (tgt := 113) hx hb dX11_count_1 (by decide) (by decide) (by decide) (by decide) ?_
    refine xaload_n hx hb dX11_count_113 hl rfl ?_
    refine xget (C := RX11) (T := TX11) (N := 9) hx hb (ci := 11) hts hiX11 hown hG hw (by repeat first | assumption | exact wu_eq _ _ _ | refine wu_ne (by omega) ?_) rfl 8 (by decide) hlnk4 (fun _ h9 => h9) rfl dX11_count_114 ?_
    exact xiret hx hb hr hlk hw hS dX11_count_117 ⟨by rw [v_count, onR_in (by omega) (by omega)]; rfl, rfl⟩
  · skip
    refine lv_tableOut (tgt := 118) hx hb dX11_count_1 (tab_out hx1 (by decide)) (by decide) ?_
    refine lv_bipush (v := -102) hx hb dX11_count_118 (by decide) ?_
    exact xiret hx hb hr hlk hw hS dX11_count_120 ⟨by rw [v_count, onR_out hx1], rfl⟩
set_option maxHeartbeats 4000000 in
set_option maxRecDepth 100000 in
theorem kX11_hands (l : Launch) (N0 : Nat) (G : XG) (w : Wd) (x0 Z : Nat) (S : QS) (hR : RLQ G w x0 Z S) (hW : WF S) (hZx : x0 + 52 ≤ Z) (x y z : Int32) : XM l yX11_hands wsX11_hands (rmD 12) N0 G [.ref x0, .int x, .int y, .int z] w vI (fun r w1 => v_hands S x y z = r ∧ RLQ G w1 x0 Z S ∧ Out w w1 x0 (x0 + 52)) 0 0 := by
  refine XM.of (cc := cX11_hands) (maxL := 5) (ret := (some .int)) (by decide) rfl (Nat.le_of_ble_eq_true rfl) ?_
  intro p e s m below meth c hx hb hr hlk hin0 hml hown hts hN hw hG hS ls hl
  have hown : s.vm.findClass RX11 = some m.cls := hown
  have hiX11 : ∀ x ∈ u_ws RX11 TX11 9, x ∈ wsX11_hands := by decide +kernel
  have hlnk0 := hts (.fieldLink RX11 36 "LentQuill" "search" "LLentQuill$Search;") (by decide +kernel)
  have hlnk1 := hts (.fieldLink RX11 19 "LentQuill" "town" "LLentQuill$Town;") (by decide +kernel)
  have hlnk2 := hts (.fieldLink RX11 26 "LentQuill" "books" "LLentQuill$Books;") (by decide +kernel)
  have hl : lh ls 5 [some (.ref x0), some (.int x), some (.int y), some (.int z), none] := hl
  obtain ⟨hx0, hPg, hTn, hBk, ⟨Bi, hBi, hBie⟩, ⟨hs, Ts, fw, fr, hSr⟩, ⟨dsF, hdF, F, hFr⟩⟩ := id hR
  obtain ⟨h5, hlim⟩ := hTn.five
  have hsn : sn S = (sP S).length := rfl
  have hpgc := hPg.cell
  have htnc := hTn.cell
  have hbkc := hBk.cell
  have hbic := hBi.cell
  have hsrc := hSr.cell
  have hfrc := hFr.1
  obtain ⟨hd6, hh6, hdw⟩ := hBk.six
  have hsd : (sd S).length = (sB S).2.1.length := rfl
  have hsh : (sh S).length = (sB S).2.2.length := rfl
  rcases inR_or x (sn S) with ⟨i, hi, hi31, rfl⟩ | hx1 <;> rcases inR_or y 5 with ⟨k, hk, hk31, rfl⟩ | hy1 <;> rcases inR_or z 2 with ⟨t, ht, ht31, rfl⟩ | hz1
  · skip
    have hpi := hBk.pen (i := i) (by omega)
    have hpic := hpi.cell
    have hali : ∀ x ∈ (sB S).1 i, x < (sP S).length := hW.1.1 i hi
    obtain ⟨hl0, hl41⟩ := hpi.len
    refine xaload_n hx hb dX11_hands_0 hl rfl ?_
    refine xiload_n hx hb dX11_hands_1 hl rfl ?_
    refine xVr ⟨hx, hb, hml, hown, hts⟩ (kX11_penOf l N0 G _ _ Z S hR hW hZx i hi) (cwV 1 hts gX11_hands_X11_penOf rfl rfl rfl (by decide +kernel) ⟨Nat.le_of_ble_eq_true rfl, Nat.le_of_ble_eq_true rfl⟩) hG hN hw hS (ci := 11) (by repeat first | assumption | exact wu_eq _ _ _ | refine wu_ne (by omega) ?_) rfl rfl hl.1 rfl (Nat.le_of_ble_eq_true rfl) dX11_hands_2 ⟨Nat.le_of_ble_eq_true rfl, Nat.le_of_ble_eq_true rfl⟩ (fun r2 w2 H locs hp2 hw hS => ?_)
    obtain ⟨rfl, rfl⟩ := hp2
    refine xrf rfl ?_
    refine xastore hx hb dX11_hands_5 hl (by decide) rfl (fun ls hl => ?_)
    refine xaload hx hb dX11_hands_7 hl rfl ?_
    refine lv_ifnonnull (tgt := 15) hx hb dX11_hands_9 (by decide) ?_
    refine xiload_n hx hb dX11_hands_15 hl rfl ?_
    refine xif_lt (tgt := 33) hx hb dX11_hands_16 (by decide) (by omega) ?_
    refine xiload_n hx hb dX11_hands_19 hl rfl ?_
    refine lv_iconst (v := nI 4) hx hb dX11_hands_20 (by decide) ?_
    first | refine xcmp_gt (tgt := 33) hx hb dX11_hands_21 (by decide) (by omega) (by omega) (fun c21 => ?_) (fun c21 => ?_) | refine lv_icmp_gt (tgt := 33) hx hb dX11_hands_21 (by decide) (fun c21 => ?_) (fun c21 => ?_)
    · skip
      exfalso
      omega
    · skip
      refine xiload_n hx hb dX11_hands_24 hl rfl ?_
      refine xif_lt (tgt := 33) hx hb dX11_hands_25 (by decide) (by omega) ?_
      refine xiload_n hx hb dX11_hands_28 hl rfl ?_
      refine lv_iconst (v := nI 1) hx hb dX11_hands_29 (by decide) ?_
      first | refine xcmp_le (tgt := 36) hx hb dX11_hands_30 (by decide) (by omega) (by omega) (fun c30 => ?_) (fun c30 => ?_) | refine lv_icmp_le (tgt := 36) hx hb dX11_hands_30 (by decide) (fun c30 => ?_) (fun c30 => ?_)
      · skip
        refine xaload_n hx hb dX11_hands_36 hl rfl ?_
        refine xget (C := RX11) (T := TX11) (N := 9) hx hb (ci := 11) hts hiX11 hown hG hw (by repeat first | assumption | exact wu_eq _ _ _ | refine wu_ne (by omega) ?_) rfl 4 (by decide) hlnk0 (fun _ h9 => h9) rfl dX11_hands_37 ?_
        refine xaload_n hx hb dX11_hands_40 hl rfl ?_
        refine xget (C := RX11) (T := TX11) (N := 9) hx hb (ci := 11) hts hiX11 hown hG hw (by repeat first | assumption | exact wu_eq _ _ _ | refine wu_ne (by omega) ?_) rfl 1 (by decide) hlnk1 (fun _ h9 => h9) rfl dX11_hands_41 ?_
        refine xaload hx hb dX11_hands_44 hl rfl ?_
        refine xiload_n hx hb dX11_hands_46 hl rfl ?_
        refine xaload_n hx hb dX11_hands_47 hl rfl ?_
        refine xget (C := RX11) (T := TX11) (N := 9) hx hb (ci := 11) hts hiX11 hown hG hw (by repeat first | assumption | exact wu_eq _ _ _ | refine wu_ne (by omega) ?_) rfl 2 (by decide) hlnk2 (fun _ h9 => h9) rfl dX11_hands_48 ?_
        refine xVv ⟨hx, hb, hml, hown, hts⟩ (kX8_tally l N0 G _ _ _ _ _ _ hSr _ Z _ _ hTn _ _ _ _ hBk (by omega) _ _ hpi (by omega) hali k (by omega)) (cwV 4 hts gX11_hands_X8_tally rfl rfl rfl (by decide +kernel) ⟨Nat.le_of_ble_eq_true rfl, Nat.le_of_ble_eq_true rfl⟩) hG hN hw hS (ci := 8) (by repeat first | assumption | exact wu_eq _ _ _ | refine wu_ne (by omega) ?_) rfl rfl hl.1 rfl (Nat.le_of_ble_eq_true rfl) dX11_hands_51 ⟨Nat.le_of_ble_eq_true rfl, Nat.le_of_ble_eq_true rfl⟩ (fun r51 w51 H locs hp51 hw hS => ?_)
        obtain ⟨hS2, hO2⟩ := hp51
        have hx2 := hO2.at (by omega) hx0
        have hsc2 := hS2.cell
        refine xiload_n hx hb dX11_hands_54 hl rfl ?_
        first | refine xifb_ne (tgt := 68) hx hb dX11_hands_55 (by decide) (fun c55 => ?_) (fun c55 => ?_) | refine xif_ne (tgt := 68) hx hb dX11_hands_55 (by decide) (by omega) (fun c55 => ?_) (fun c55 => ?_) | refine lv_if_ne (tgt := 68) hx hb dX11_hands_55 (by decide) (fun c55 => ?_) (fun c55 => ?_)
        · skip
          refine xaload_n hx hb dX11_hands_68 hl rfl ?_
          refine xget (C := RX11) (T := TX11) (N := 9) hx hb (ci := 11) hts hiX11 hown hG hw (by repeat first | assumption | exact wu_eq _ _ _ | refine wu_ne (by omega) ?_) rfl 4 (by decide) hlnk0 (fun _ h9 => h9) rfl dX11_hands_69 ?_
          refine xVi ⟨hx, hb, hml, hown, hts⟩ (kX8_holders l N0 G _ _ _ _ _ _ hS2) (cwV 0 hts gX11_hands_X8_holders rfl rfl rfl (by decide +kernel) ⟨Nat.le_of_ble_eq_true rfl, Nat.le_of_ble_eq_true rfl⟩) hG hN hw hS (ci := 8) (by repeat first | assumption | exact wu_eq _ _ _ | refine wu_ne (by omega) ?_) rfl rfl hl.1 rfl (Nat.le_of_ble_eq_true rfl) dX11_hands_72 ⟨Nat.le_of_ble_eq_true rfl, Nat.le_of_ble_eq_true rfl⟩ (fun r72 w72 H locs hp72 hw hS => ?_)
          obtain ⟨rfl, rfl⟩ := hp72
          exact xiret hx hb hr hlk hw hS dX11_hands_75 ⟨by rw [v_hands, onR_in hi hi31, onR_in hk hk31, onR_in ht ht31]; unfold hndV; first | (rw [if_pos c55]; rfl) | (rw [if_neg c55]; rfl), hR.sr hO2 hS2 hZx, hO2.mono (by omega) (by omega)⟩
        · skip
          refine xaload_n hx hb dX11_hands_58 hl rfl ?_
          refine xget (C := RX11) (T := TX11) (N := 9) hx hb (ci := 11) hts hiX11 hown hG hw (by repeat first | assumption | exact wu_eq _ _ _ | refine wu_ne (by omega) ?_) rfl 4 (by decide) hlnk0 (fun _ h9 => h9) rfl dX11_hands_59 ?_
          refine xVi ⟨hx, hb, hml, hown, hts⟩ (kX8_ways l N0 G _ _ _ _ _ _ hS2) (cwV 0 hts gX11_hands_X8_ways rfl rfl rfl (by decide +kernel) ⟨Nat.le_of_ble_eq_true rfl, Nat.le_of_ble_eq_true rfl⟩) hG hN hw hS (ci := 8) (by repeat first | assumption | exact wu_eq _ _ _ | refine wu_ne (by omega) ?_) rfl rfl hl.1 rfl (Nat.le_of_ble_eq_true rfl) dX11_hands_62 ⟨Nat.le_of_ble_eq_true rfl, Nat.le_of_ble_eq_true rfl⟩ (fun r62 w62 H locs hp62 hw hS => ?_)
          obtain ⟨rfl, rfl⟩ := hp62
          refine lv_goto (tgt := 75) hx hb dX11_hands_65 (by decide) ?_
          exact xiret hx hb hr hlk hw hS dX11_hands_75 ⟨by rw [v_hands, onR_in hi hi31, onR_in hk hk31, onR_in ht ht31]; unfold hndV; first | (rw [if_pos c55]; rfl) | (rw [if_neg c55]; rfl), hR.sr hO2 hS2 hZx, hO2.mono (by omega) (by omega)⟩
      · skip
        exfalso
        omega
  · skip
    refine xaload_n hx hb dX11_hands_0 hl rfl ?_
    refine xiload_n hx hb dX11_hands_1 hl rfl ?_
    refine xVr ⟨hx, hb, hml, hown, hts⟩ (kX11_penOf l N0 G _ _ Z S hR hW hZx i hi) (cwV 1 hts gX11_hands_X11_penOf rfl rfl rfl (by decide +kernel) ⟨Nat.le_of_ble_eq_true rfl, Nat.le_of_ble_eq_true rfl⟩) hG hN hw hS (ci := 11) (by repeat first | assumption | exact wu_eq _ _ _ | refine wu_ne (by omega) ?_) rfl rfl hl.1 rfl (Nat.le_of_ble_eq_true rfl) dX11_hands_2 ⟨Nat.le_of_ble_eq_true rfl, Nat.le_of_ble_eq_true rfl⟩ (fun r2 w2 H locs hp2 hw hS => ?_)
    obtain ⟨rfl, rfl⟩ := hp2
    refine xrf rfl ?_
    refine xastore hx hb dX11_hands_5 hl (by decide) rfl (fun ls hl => ?_)
    refine xaload hx hb dX11_hands_7 hl rfl ?_
    refine lv_ifnonnull (tgt := 15) hx hb dX11_hands_9 (by decide) ?_
    refine xiload_n hx hb dX11_hands_15 hl rfl ?_
    refine xif_lt (tgt := 33) hx hb dX11_hands_16 (by decide) (by omega) ?_
    refine xiload_n hx hb dX11_hands_19 hl rfl ?_
    refine lv_iconst (v := nI 4) hx hb dX11_hands_20 (by decide) ?_
    first | refine xcmp_gt (tgt := 33) hx hb dX11_hands_21 (by decide) (by omega) (by omega) (fun c21 => ?_) (fun c21 => ?_) | refine lv_icmp_gt (tgt := 33) hx hb dX11_hands_21 (by decide) (fun c21 => ?_) (fun c21 => ?_)
    · skip
      exfalso
      omega
    · skip
      refine xiload_n hx hb dX11_hands_24 hl rfl ?_
      refine lv_if_lt (tgt := 33) hx hb dX11_hands_25 (by decide) (fun c25 => ?_) (fun c25 => ?_)
      · skip
        refine lv_bipush (v := -102) hx hb dX11_hands_33 (by decide) ?_
        exact xiret hx hb hr hlk hw hS dX11_hands_35 ⟨by rw [v_hands, onR_in hi hi31, onR_in hk hk31, onR_out hz1], hR, Out.rf⟩
      · skip
        refine xiload_n hx hb dX11_hands_28 hl rfl ?_
        refine lv_iconst (v := nI 1) hx hb dX11_hands_29 (by decide) ?_
        refine lv_icmp_le (tgt := 36) hx hb dX11_hands_30 (by decide) (fun c30 => ?_) (fun c30 => ?_)
        · skip
          exfalso
          exact hz1 (rawin0 c25 c30 (by omega))
        · skip
          refine lv_bipush (v := -102) hx hb dX11_hands_33 (by decide) ?_
          exact xiret hx hb hr hlk hw hS dX11_hands_35 ⟨by rw [v_hands, onR_in hi hi31, onR_in hk hk31, onR_out hz1], hR, Out.rf⟩
  · skip
    refine xaload_n hx hb dX11_hands_0 hl rfl ?_
    refine xiload_n hx hb dX11_hands_1 hl rfl ?_
    refine xVr ⟨hx, hb, hml, hown, hts⟩ (kX11_penOf l N0 G _ _ Z S hR hW hZx i hi) (cwV 1 hts gX11_hands_X11_penOf rfl rfl rfl (by decide +kernel) ⟨Nat.le_of_ble_eq_true rfl, Nat.le_of_ble_eq_true rfl⟩) hG hN hw hS (ci := 11) (by repeat first | assumption | exact wu_eq _ _ _ | refine wu_ne (by omega) ?_) rfl rfl hl.1 rfl (Nat.le_of_ble_eq_true rfl) dX11_hands_2 ⟨Nat.le_of_ble_eq_true rfl, Nat.le_of_ble_eq_true rfl⟩ (fun r2 w2 H locs hp2 hw hS => ?_)
    obtain ⟨rfl, rfl⟩ := hp2
    refine xrf rfl ?_
    refine xastore hx hb dX11_hands_5 hl (by decide) rfl (fun ls hl => ?_)
    refine xaload hx hb dX11_hands_7 hl rfl ?_
    refine lv_ifnonnull (tgt := 15) hx hb dX11_hands_9 (by decide) ?_
    refine xiload_n hx hb dX11_hands_15 hl rfl ?_
    refine lv_if_lt (tgt := 33) hx hb dX11_hands_16 (by decide) (fun c16 => ?_) (fun c16 => ?_)
    · skip
      refine lv_bipush (v := -102) hx hb dX11_hands_33 (by decide) ?_
      exact xiret hx hb hr hlk hw hS dX11_hands_35 ⟨by rw [v_hands, onR_in hi hi31, onR_out hy1], hR, Out.rf⟩
    · skip
      refine xiload_n hx hb dX11_hands_19 hl rfl ?_
      refine lv_iconst (v := nI 4) hx hb dX11_hands_20 (by decide) ?_
      refine lv_icmp_gt (tgt := 33) hx hb dX11_hands_21 (by decide) (fun c21 => ?_) (fun c21 => ?_)
      · skip
        refine lv_bipush (v := -102) hx hb dX11_hands_33 (by decide) ?_
        exact xiret hx hb hr hlk hw hS dX11_hands_35 ⟨by rw [v_hands, onR_in hi hi31, onR_out hy1], hR, Out.rf⟩
      · skip
        exfalso
        exact hy1 (rawin3 c16 c21 (by omega))
  · skip
    refine xaload_n hx hb dX11_hands_0 hl rfl ?_
    refine xiload_n hx hb dX11_hands_1 hl rfl ?_
    refine xVr ⟨hx, hb, hml, hown, hts⟩ (kX11_penOf l N0 G _ _ Z S hR hW hZx i hi) (cwV 1 hts gX11_hands_X11_penOf rfl rfl rfl (by decide +kernel) ⟨Nat.le_of_ble_eq_true rfl, Nat.le_of_ble_eq_true rfl⟩) hG hN hw hS (ci := 11) (by repeat first | assumption | exact wu_eq _ _ _ | refine wu_ne (by omega) ?_) rfl rfl hl.1 rfl (Nat.le_of_ble_eq_true rfl) dX11_hands_2 ⟨Nat.le_of_ble_eq_true rfl, Nat.le_of_ble_eq_true rfl⟩ (fun r2 w2 H locs hp2 hw hS => ?_)
    obtain ⟨rfl, rfl⟩ := hp2
    refine xrf rfl ?_
    refine xastore hx hb dX11_hands_5 hl (by decide) rfl (fun ls hl => ?_)
    refine xaload hx hb dX11_hands_7 hl rfl ?_
    refine lv_ifnonnull (tgt := 15) hx hb dX11_hands_9 (by decide) ?_
    refine xiload_n hx hb dX11_hands_15 hl rfl ?_
    refine lv_if_lt (tgt := 33) hx hb dX11_hands_16 (by decide) (fun c16 => ?_) (fun c16 => ?_)
    · skip
      refine lv_bipush (v := -102) hx hb dX11_hands_33 (by decide) ?_
      exact xiret hx hb hr hlk hw hS dX11_hands_35 ⟨by rw [v_hands, onR_in hi hi31, onR_out hy1], hR, Out.rf⟩
    · skip
      refine xiload_n hx hb dX11_hands_19 hl rfl ?_
      refine lv_iconst (v := nI 4) hx hb dX11_hands_20 (by decide) ?_
      refine lv_icmp_gt (tgt := 33) hx hb dX11_hands_21 (by decide) (fun c21 => ?_) (fun c21 => ?_)
      · skip
        refine lv_bipush (v := -102) hx hb dX11_hands_33 (by decide) ?_
        exact xiret hx hb hr hlk hw hS dX11_hands_35 ⟨by rw [v_hands, onR_in hi hi31, onR_out hy1], hR, Out.rf⟩
      · skip
        exfalso
        exact hy1 (rawin3 c16 c21 (by omega))
  · skip
    refine xaload_n hx hb dX11_hands_0 hl rfl ?_
    refine xiload_n hx hb dX11_hands_1 hl rfl ?_
    refine xVr ⟨hx, hb, hml, hown, hts⟩ (kX11_penOf_out l N0 G _ _ Z S hR hW hZx _ hx1) (cwV 1 hts gX11_hands_X11_penOf rfl rfl rfl (by decide +kernel) ⟨Nat.le_of_ble_eq_true rfl, Nat.le_of_ble_eq_true rfl⟩) hG hN hw hS (ci := 11) (by repeat first | assumption | exact wu_eq _ _ _ | refine wu_ne (by omega) ?_) rfl rfl hl.1 rfl (Nat.le_of_ble_eq_true rfl) dX11_hands_2 ⟨Nat.le_of_ble_eq_true rfl, Nat.le_of_ble_eq_true rfl⟩ (fun r2 w2 H locs hp2 hw hS => ?_)
    obtain ⟨rfl, rfl⟩ := hp2
    refine xrn rfl ?_
    refine xastoreN hx hb dX11_hands_5 hl (by decide) rfl (fun ls hl => ?_)
    refine xaloadN hx hb dX11_hands_7 hl rfl ?_
    refine lv_ifnonnullN hx hb dX11_hands_9 ?_
    refine lv_bipush (v := -101) hx hb dX11_hands_12 (by decide) ?_
    exact xiret hx hb hr hlk hw hS dX11_hands_14 ⟨by rw [v_hands, onR_out hx1], hR, Out.rf⟩
  · skip
    refine xaload_n hx hb dX11_hands_0 hl rfl ?_
    refine xiload_n hx hb dX11_hands_1 hl rfl ?_
    refine xVr ⟨hx, hb, hml, hown, hts⟩ (kX11_penOf_out l N0 G _ _ Z S hR hW hZx _ hx1) (cwV 1 hts gX11_hands_X11_penOf rfl rfl rfl (by decide +kernel) ⟨Nat.le_of_ble_eq_true rfl, Nat.le_of_ble_eq_true rfl⟩) hG hN hw hS (ci := 11) (by repeat first | assumption | exact wu_eq _ _ _ | refine wu_ne (by omega) ?_) rfl rfl hl.1 rfl (Nat.le_of_ble_eq_true rfl) dX11_hands_2 ⟨Nat.le_of_ble_eq_true rfl, Nat.le_of_ble_eq_true rfl⟩ (fun r2 w2 H locs hp2 hw hS => ?_)
    obtain ⟨rfl, rfl⟩ := hp2
    refine xrn rfl ?_
    refine xastoreN hx hb dX11_hands_5 hl (by decide) rfl (fun ls hl => ?_)
    refine xaloadN hx hb dX11_hands_7 hl rfl ?_
    refine lv_ifnonnullN hx hb dX11_hands_9 ?_
    refine lv_bipush (v := -101) hx hb dX11_hands_12 (by decide) ?_
    exact xiret hx hb hr hlk hw hS dX11_hands_14 ⟨by rw [v_hands, onR_out hx1], hR, Out.rf⟩
  · skip
    refine xaload_n hx hb dX11_hands_0 hl rfl ?_
    refine xiload_n hx hb dX11_hands_1 hl rfl ?_
    refine xVr ⟨hx, hb, hml, hown, hts⟩ (kX11_penOf_out l N0 G _ _ Z S hR hW hZx _ hx1) (cwV 1 hts gX11_hands_X11_penOf rfl rfl rfl (by decide +kernel) ⟨Nat.le_of_ble_eq_true rfl, Nat.le_of_ble_eq_true rfl⟩) hG hN hw hS (ci := 11) (by repeat first | assumption | exact wu_eq _ _ _ | refine wu_ne (by omega) ?_) rfl rfl hl.1 rfl (Nat.le_of_ble_eq_true rfl) dX11_hands_2 ⟨Nat.le_of_ble_eq_true rfl, Nat.le_of_ble_eq_true rfl⟩ (fun r2 w2 H locs hp2 hw hS => ?_)
    obtain ⟨rfl, rfl⟩ := hp2
    refine xrn rfl ?_
    refine xastoreN hx hb dX11_hands_5 hl (by decide) rfl (fun ls hl => ?_)
    refine xaloadN hx hb dX11_hands_7 hl rfl ?_
    refine lv_ifnonnullN hx hb dX11_hands_9 ?_
    refine lv_bipush (v := -101) hx hb dX11_hands_12 (by decide) ?_
    exact xiret hx hb hr hlk hw hS dX11_hands_14 ⟨by rw [v_hands, onR_out hx1], hR, Out.rf⟩
  · skip
    refine xaload_n hx hb dX11_hands_0 hl rfl ?_
    refine xiload_n hx hb dX11_hands_1 hl rfl ?_
    refine xVr ⟨hx, hb, hml, hown, hts⟩ (kX11_penOf_out l N0 G _ _ Z S hR hW hZx _ hx1) (cwV 1 hts gX11_hands_X11_penOf rfl rfl rfl (by decide +kernel) ⟨Nat.le_of_ble_eq_true rfl, Nat.le_of_ble_eq_true rfl⟩) hG hN hw hS (ci := 11) (by repeat first | assumption | exact wu_eq _ _ _ | refine wu_ne (by omega) ?_) rfl rfl hl.1 rfl (Nat.le_of_ble_eq_true rfl) dX11_hands_2 ⟨Nat.le_of_ble_eq_true rfl, Nat.le_of_ble_eq_true rfl⟩ (fun r2 w2 H locs hp2 hw hS => ?_)
    obtain ⟨rfl, rfl⟩ := hp2
    refine xrn rfl ?_
    refine xastoreN hx hb dX11_hands_5 hl (by decide) rfl (fun ls hl => ?_)
    refine xaloadN hx hb dX11_hands_7 hl rfl ?_
    refine lv_ifnonnullN hx hb dX11_hands_9 ?_
    refine lv_bipush (v := -101) hx hb dX11_hands_12 (by decide) ?_
    exact xiret hx hb hr hlk hw hS dX11_hands_14 ⟨by rw [v_hands, onR_out hx1], hR, Out.rf⟩
set_option maxHeartbeats 4000000 in
set_option maxRecDepth 100000 in
theorem kX11_ask (l : Launch) (N0 : Nat) (G : XG) (w : Wd) (x0 Z : Nat) (S : QS) (hR : RLQ G w x0 Z S) (hW : WF S) (hZx : x0 + 52 ≤ Z) (x y : Int32) : XM l yX11_ask wsX11_ask (rmD 12) N0 G [.ref x0, .int x, .int y] w vI (fun r w1 => v_ask S x y = r ∧ RLQ G w1 x0 Z S ∧ Out w w1 x0 (x0 + 52)) 0 0 := by
  refine XM.of (cc := cX11_ask) (maxL := 4) (ret := (some .int)) (by decide) rfl (Nat.le_of_ble_eq_true rfl) ?_
  intro p e s m below meth c hx hb hr hlk hin0 hml hown hts hN hw hG hS ls hl
  have hown : s.vm.findClass RX11 = some m.cls := hown
  have hiX11 : ∀ x ∈ u_ws RX11 TX11 9, x ∈ wsX11_ask := by decide +kernel
  have hlnk0 := hts (.fieldLink RX11 36 "LentQuill" "search" "LLentQuill$Search;") (by decide +kernel)
  have hlnk1 := hts (.fieldLink RX11 19 "LentQuill" "town" "LLentQuill$Town;") (by decide +kernel)
  have hlnk2 := hts (.fieldLink RX11 26 "LentQuill" "books" "LLentQuill$Books;") (by decide +kernel)
  have hl : lh ls 4 [some (.ref x0), some (.int x), some (.int y), none] := hl
  obtain ⟨hx0, hPg, hTn, hBk, ⟨Bi, hBi, hBie⟩, ⟨hs, Ts, fw, fr, hSr⟩, ⟨dsF, hdF, F, hFr⟩⟩ := id hR
  obtain ⟨h5, hlim⟩ := hTn.five
  have hsn : sn S = (sP S).length := rfl
  have hpgc := hPg.cell
  have htnc := hTn.cell
  have hbkc := hBk.cell
  have hbic := hBi.cell
  have hsrc := hSr.cell
  have hfrc := hFr.1
  obtain ⟨hd6, hh6, hdw⟩ := hBk.six
  have hsd : (sd S).length = (sB S).2.1.length := rfl
  have hsh : (sh S).length = (sB S).2.2.length := rfl
  rcases inR_or x (sn S) with ⟨i, hi, hi31, rfl⟩ | hx1 <;> rcases inR_or y 5 with ⟨k, hk, hk31, rfl⟩ | hy1
  · skip
    have hpi := hBk.pen (i := i) (by omega)
    have hpic := hpi.cell
    have hali : ∀ x ∈ (sB S).1 i, x < (sP S).length := hW.1.1 i hi
    obtain ⟨hl0, hl41⟩ := hpi.len
    have hle := handS_le (lim := sL S) (hd := sh S) (h := (sB S).1 i) h5 (show k ≤ 4 by omega)
    refine xaload_n hx hb dX11_ask_0 hl rfl ?_
    refine xiload_n hx hb dX11_ask_1 hl rfl ?_
    refine xVr ⟨hx, hb, hml, hown, hts⟩ (kX11_penOf l N0 G _ _ Z S hR hW hZx i hi) (cwV 1 hts gX11_ask_X11_penOf rfl rfl rfl (by decide +kernel) ⟨Nat.le_of_ble_eq_true rfl, Nat.le_of_ble_eq_true rfl⟩) hG hN hw hS (ci := 11) (by repeat first | assumption | exact wu_eq _ _ _ | refine wu_ne (by omega) ?_) rfl rfl hl.1 rfl (Nat.le_of_ble_eq_true rfl) dX11_ask_2 ⟨Nat.le_of_ble_eq_true rfl, Nat.le_of_ble_eq_true rfl⟩ (fun r2 w2 H locs hp2 hw hS => ?_)
    obtain ⟨rfl, rfl⟩ := hp2
    refine xrf rfl ?_
    first | refine xastore_n hx hb dX11_ask_5 hl (by decide) rfl (fun ls hl => ?_) | refine xastore_nN hx hb dX11_ask_5 hl (by decide) rfl (fun ls hl => ?_)
    refine xaload_n hx hb dX11_ask_6 hl rfl ?_
    refine lv_ifnonnull (tgt := 13) hx hb dX11_ask_7 (by decide) ?_
    refine xiload_n hx hb dX11_ask_13 hl rfl ?_
    refine xif_lt (tgt := 22) hx hb dX11_ask_14 (by decide) (by omega) ?_
    refine xiload_n hx hb dX11_ask_17 hl rfl ?_
    refine lv_iconst (v := nI 4) hx hb dX11_ask_18 (by decide) ?_
    first | refine xcmp_le (tgt := 25) hx hb dX11_ask_19 (by decide) (by omega) (by omega) (fun c19 => ?_) (fun c19 => ?_) | refine lv_icmp_le (tgt := 25) hx hb dX11_ask_19 (by decide) (fun c19 => ?_) (fun c19 => ?_)
    · skip
      refine xaload_n hx hb dX11_ask_25 hl rfl ?_
      refine xget (C := RX11) (T := TX11) (N := 9) hx hb (ci := 11) hts hiX11 hown hG hw (by repeat first | assumption | exact wu_eq _ _ _ | refine wu_ne (by omega) ?_) rfl 4 (by decide) hlnk0 (fun _ h9 => h9) rfl dX11_ask_26 ?_
      refine xaload_n hx hb dX11_ask_29 hl rfl ?_
      refine xget (C := RX11) (T := TX11) (N := 9) hx hb (ci := 11) hts hiX11 hown hG hw (by repeat first | assumption | exact wu_eq _ _ _ | refine wu_ne (by omega) ?_) rfl 1 (by decide) hlnk1 (fun _ h9 => h9) rfl dX11_ask_30 ?_
      refine xaload_n hx hb dX11_ask_33 hl rfl ?_
      refine xiload_n hx hb dX11_ask_34 hl rfl ?_
      refine xaload_n hx hb dX11_ask_35 hl rfl ?_
      refine xget (C := RX11) (T := TX11) (N := 9) hx hb (ci := 11) hts hiX11 hown hG hw (by repeat first | assumption | exact wu_eq _ _ _ | refine wu_ne (by omega) ?_) rfl 2 (by decide) hlnk2 (fun _ h9 => h9) rfl dX11_ask_36 ?_
      refine xVv ⟨hx, hb, hml, hown, hts⟩ (kX8_tally l N0 G _ _ _ _ _ _ hSr _ Z _ _ hTn _ _ _ _ hBk (by omega) _ _ hpi (by omega) hali k (by omega)) (cwV 4 hts gX11_ask_X8_tally rfl rfl rfl (by decide +kernel) ⟨Nat.le_of_ble_eq_true rfl, Nat.le_of_ble_eq_true rfl⟩) hG hN hw hS (ci := 8) (by repeat first | assumption | exact wu_eq _ _ _ | refine wu_ne (by omega) ?_) rfl rfl hl.1 rfl (Nat.le_of_ble_eq_true rfl) dX11_ask_39 ⟨Nat.le_of_ble_eq_true rfl, Nat.le_of_ble_eq_true rfl⟩ (fun r39 w39 H locs hp39 hw hS => ?_)
      obtain ⟨hS2, hO2⟩ := hp39
      have hx2 := hO2.at (by omega) hx0
      have hsc2 := hS2.cell
      have hT2 := hTn.out hO2 (by omega) (by omega)
      have htc2 := hT2.cell
      refine xaload_n hx hb dX11_ask_42 hl rfl ?_
      refine xget (C := RX11) (T := TX11) (N := 9) hx hb (ci := 11) hts hiX11 hown hG hw (by repeat first | assumption | exact wu_eq _ _ _ | refine wu_ne (by omega) ?_) rfl 4 (by decide) hlnk0 (fun _ h9 => h9) rfl dX11_ask_43 ?_
      refine xaload_n hx hb dX11_ask_46 hl rfl ?_
      refine xget (C := RX11) (T := TX11) (N := 9) hx hb (ci := 11) hts hiX11 hown hG hw (by repeat first | assumption | exact wu_eq _ _ _ | refine wu_ne (by omega) ?_) rfl 1 (by decide) hlnk1 (fun _ h9 => h9) rfl dX11_ask_47 ?_
      refine xVi ⟨hx, hb, hml, hown, hts⟩ (kX10_size l N0 G _ _ Z _ _ hT2) (cwV 0 hts gX11_ask_X10_size rfl rfl rfl (by decide +kernel) ⟨Nat.le_of_ble_eq_true rfl, Nat.le_of_ble_eq_true rfl⟩) hG hN hw hS (ci := 10) (by repeat first | assumption | exact wu_eq _ _ _ | refine wu_ne (by omega) ?_) rfl rfl hl.1 rfl (Nat.le_of_ble_eq_true rfl) dX11_ask_50 ⟨Nat.le_of_ble_eq_true rfl, Nat.le_of_ble_eq_true rfl⟩ (fun r50 w50 H locs hp50 hw hS => ?_)
      obtain ⟨rfl, rfl⟩ := hp50
      refine xVi ⟨hx, hb, hml, hown, hts⟩ (kX8_bestAsked l N0 G _ _ _ _ _ _ hS2 _ h5 hle.1 hle.2) (cwV 1 hts gX11_ask_X8_bestAsked rfl rfl rfl (by decide +kernel) ⟨Nat.le_of_ble_eq_true rfl, Nat.le_of_ble_eq_true rfl⟩) hG hN hw hS (ci := 8) (by repeat first | assumption | exact wu_eq _ _ _ | refine wu_ne (by omega) ?_) rfl rfl hl.1 rfl (Nat.le_of_ble_eq_true rfl) dX11_ask_53 ⟨Nat.le_of_ble_eq_true rfl, Nat.le_of_ble_eq_true rfl⟩ (fun r53 w53 H locs hp53 hw hS => ?_)
      obtain ⟨rfl, rfl⟩ := hp53
      exact xiret hx hb hr hlk hw hS dX11_ask_56 ⟨by rw [v_ask, onR_in hi hi31, onR_in hk hk31]; rfl, hR.sr hO2 hS2 hZx, hO2.mono (by omega) (by omega)⟩
    · skip
      exfalso
      omega
  · skip
    refine xaload_n hx hb dX11_ask_0 hl rfl ?_
    refine xiload_n hx hb dX11_ask_1 hl rfl ?_
    refine xVr ⟨hx, hb, hml, hown, hts⟩ (kX11_penOf l N0 G _ _ Z S hR hW hZx i hi) (cwV 1 hts gX11_ask_X11_penOf rfl rfl rfl (by decide +kernel) ⟨Nat.le_of_ble_eq_true rfl, Nat.le_of_ble_eq_true rfl⟩) hG hN hw hS (ci := 11) (by repeat first | assumption | exact wu_eq _ _ _ | refine wu_ne (by omega) ?_) rfl rfl hl.1 rfl (Nat.le_of_ble_eq_true rfl) dX11_ask_2 ⟨Nat.le_of_ble_eq_true rfl, Nat.le_of_ble_eq_true rfl⟩ (fun r2 w2 H locs hp2 hw hS => ?_)
    obtain ⟨rfl, rfl⟩ := hp2
    refine xrf rfl ?_
    first | refine xastore_n hx hb dX11_ask_5 hl (by decide) rfl (fun ls hl => ?_) | refine xastore_nN hx hb dX11_ask_5 hl (by decide) rfl (fun ls hl => ?_)
    refine xaload_n hx hb dX11_ask_6 hl rfl ?_
    refine lv_ifnonnull (tgt := 13) hx hb dX11_ask_7 (by decide) ?_
    refine xiload_n hx hb dX11_ask_13 hl rfl ?_
    refine lv_if_lt (tgt := 22) hx hb dX11_ask_14 (by decide) (fun c14 => ?_) (fun c14 => ?_)
    · skip
      refine lv_bipush (v := -102) hx hb dX11_ask_22 (by decide) ?_
      exact xiret hx hb hr hlk hw hS dX11_ask_24 ⟨by rw [v_ask, onR_in hi hi31, onR_out hy1], hR, Out.rf⟩
    · skip
      refine xiload_n hx hb dX11_ask_17 hl rfl ?_
      refine lv_iconst (v := nI 4) hx hb dX11_ask_18 (by decide) ?_
      refine lv_icmp_le (tgt := 25) hx hb dX11_ask_19 (by decide) (fun c19 => ?_) (fun c19 => ?_)
      · skip
        exfalso
        exact hy1 (rawin0 c14 c19 (by omega))
      · skip
        refine lv_bipush (v := -102) hx hb dX11_ask_22 (by decide) ?_
        exact xiret hx hb hr hlk hw hS dX11_ask_24 ⟨by rw [v_ask, onR_in hi hi31, onR_out hy1], hR, Out.rf⟩
  · skip
    refine xaload_n hx hb dX11_ask_0 hl rfl ?_
    refine xiload_n hx hb dX11_ask_1 hl rfl ?_
    refine xVr ⟨hx, hb, hml, hown, hts⟩ (kX11_penOf_out l N0 G _ _ Z S hR hW hZx _ hx1) (cwV 1 hts gX11_ask_X11_penOf rfl rfl rfl (by decide +kernel) ⟨Nat.le_of_ble_eq_true rfl, Nat.le_of_ble_eq_true rfl⟩) hG hN hw hS (ci := 11) (by repeat first | assumption | exact wu_eq _ _ _ | refine wu_ne (by omega) ?_) rfl rfl hl.1 rfl (Nat.le_of_ble_eq_true rfl) dX11_ask_2 ⟨Nat.le_of_ble_eq_true rfl, Nat.le_of_ble_eq_true rfl⟩ (fun r2 w2 H locs hp2 hw hS => ?_)
    obtain ⟨rfl, rfl⟩ := hp2
    refine xrn rfl ?_
    first | refine xastore_n hx hb dX11_ask_5 hl (by decide) rfl (fun ls hl => ?_) | refine xastore_nN hx hb dX11_ask_5 hl (by decide) rfl (fun ls hl => ?_)
    refine xaload_nN hx hb dX11_ask_6 hl rfl ?_
    refine lv_ifnonnullN hx hb dX11_ask_7 ?_
    refine lv_bipush (v := -101) hx hb dX11_ask_10 (by decide) ?_
    exact xiret hx hb hr hlk hw hS dX11_ask_12 ⟨by rw [v_ask, onR_out hx1], hR, Out.rf⟩
  · skip
    refine xaload_n hx hb dX11_ask_0 hl rfl ?_
    refine xiload_n hx hb dX11_ask_1 hl rfl ?_
    refine xVr ⟨hx, hb, hml, hown, hts⟩ (kX11_penOf_out l N0 G _ _ Z S hR hW hZx _ hx1) (cwV 1 hts gX11_ask_X11_penOf rfl rfl rfl (by decide +kernel) ⟨Nat.le_of_ble_eq_true rfl, Nat.le_of_ble_eq_true rfl⟩) hG hN hw hS (ci := 11) (by repeat first | assumption | exact wu_eq _ _ _ | refine wu_ne (by omega) ?_) rfl rfl hl.1 rfl (Nat.le_of_ble_eq_true rfl) dX11_ask_2 ⟨Nat.le_of_ble_eq_true rfl, Nat.le_of_ble_eq_true rfl⟩ (fun r2 w2 H locs hp2 hw hS => ?_)
    obtain ⟨rfl, rfl⟩ := hp2
    refine xrn rfl ?_
    first | refine xastore_n hx hb dX11_ask_5 hl (by decide) rfl (fun ls hl => ?_) | refine xastore_nN hx hb dX11_ask_5 hl (by decide) rfl (fun ls hl => ?_)
    refine xaload_nN hx hb dX11_ask_6 hl rfl ?_
    refine lv_ifnonnullN hx hb dX11_ask_7 ?_
    refine lv_bipush (v := -101) hx hb dX11_ask_10 (by decide) ?_
    exact xiret hx hb hr hlk hw hS dX11_ask_12 ⟨by rw [v_ask, onR_out hx1], hR, Out.rf⟩
set_option maxHeartbeats 4000000 in
set_option maxRecDepth 100000 in
theorem kX11_way (l : Launch) (N0 : Nat) (G : XG) (w : Wd) (x0 Z : Nat) (S : QS) (hR : RLQ G w x0 Z S) (hW : WF S) (hZx : x0 + 52 ≤ Z) (x y z : Int32) : XM l yX11_way wsX11_way (rmD 12) N0 G [.ref x0, .int x, .int y, .int z] w vI (fun r w1 => (o_way S x y z).1 = r ∧ RLQ G w1 x0 Z (o_way S x y z).2 ∧ Out w w1 x0 (x0 + 52)) 0 0 := by
  refine XM.of (cc := cX11_way) (maxL := 5) (ret := (some .int)) (by decide) rfl (Nat.le_of_ble_eq_true rfl) ?_
  intro p e s m below meth c hx hb hr hlk hin0 hml hown hts hN hw hG hS ls hl
  have hown : s.vm.findClass RX11 = some m.cls := hown
  have hiX11 : ∀ x ∈ u_ws RX11 TX11 9, x ∈ wsX11_way := by decide +kernel
  have hlnk0 := hts (.fieldLink RX11 19 "LentQuill" "town" "LLentQuill$Town;") (by decide +kernel)
  have hlnk1 := hts (.fieldLink RX11 174 "LentQuill" "waysDone" "I") (by decide +kernel)
  have hlnk2 := hts (.fieldLink RX11 36 "LentQuill" "search" "LLentQuill$Search;") (by decide +kernel)
  have hl : lh ls 5 [some (.ref x0), some (.int x), some (.int y), some (.int z), none] := hl
  obtain ⟨hx0, hPg, hTn, hBk, ⟨Bi, hBi, hBie⟩, ⟨hs, Ts, fw, fr, hSr⟩, ⟨dsF, hdF, F, hFr⟩⟩ := id hR
  obtain ⟨h5, hlim⟩ := hTn.five
  have hsn : sn S = (sP S).length := rfl
  have hpgc := hPg.cell
  have htnc := hTn.cell
  have hbkc := hBk.cell
  have hbic := hBi.cell
  have hsrc := hSr.cell
  have hfrc := hFr.1
  obtain ⟨hd6, hh6, hdw⟩ := hBk.six
  have hsd : (sd S).length = (sB S).2.1.length := rfl
  have hsh : (sh S).length = (sB S).2.2.length := rfl
  have hp2 := p2n h5
  have hsa := hW.2.2.2
  have hp2s : 2 ^ sn S = 2 ^ (sP S).length := rfl
  rcases inR_or x (sn S) with ⟨i, hi, hi31, rfl⟩ | hx1 <;> rcases inR_or y (2 ^ sn S) with ⟨k, hk, hk31, rfl⟩ | hy1 <;> rcases inR_or z 2 with ⟨t, ht, ht31, rfl⟩ | hz1
  · skip
    have hpi := hBk.pen (i := i) (by omega)
    have hpic := hpi.cell
    have hali : ∀ x ∈ (sB S).1 i, x < (sP S).length := hW.1.1 i hi
    obtain ⟨hl0, hl41⟩ := hpi.len
    refine xaload_n hx hb dX11_way_0 hl rfl ?_
    refine xiload_n hx hb dX11_way_1 hl rfl ?_
    refine xVr ⟨hx, hb, hml, hown, hts⟩ (kX11_penOf l N0 G _ _ Z S hR hW hZx i hi) (cwV 1 hts gX11_way_X11_penOf rfl rfl rfl (by decide +kernel) ⟨Nat.le_of_ble_eq_true rfl, Nat.le_of_ble_eq_true rfl⟩) hG hN hw hS (ci := 11) (by repeat first | assumption | exact wu_eq _ _ _ | refine wu_ne (by omega) ?_) rfl rfl hl.1 rfl (Nat.le_of_ble_eq_true rfl) dX11_way_2 ⟨Nat.le_of_ble_eq_true rfl, Nat.le_of_ble_eq_true rfl⟩ (fun r2 w2 H locs hp2 hw hS => ?_)
    obtain ⟨rfl, rfl⟩ := hp2
    refine xrf rfl ?_
    refine xastore hx hb dX11_way_5 hl (by decide) rfl (fun ls hl => ?_)
    refine xaload hx hb dX11_way_7 hl rfl ?_
    refine lv_ifnonnull (tgt := 15) hx hb dX11_way_9 (by decide) ?_
    refine xiload_n hx hb dX11_way_15 hl rfl ?_
    refine xif_lt (tgt := 39) hx hb dX11_way_16 (by decide) (by omega) ?_
    refine xiload_n hx hb dX11_way_19 hl rfl ?_
    refine xaload_n hx hb dX11_way_20 hl rfl ?_
    refine xget (C := RX11) (T := TX11) (N := 9) hx hb (ci := 11) hts hiX11 hown hG hw (by repeat first | assumption | exact wu_eq _ _ _ | refine wu_ne (by omega) ?_) rfl 1 (by decide) hlnk0 (fun _ h9 => h9) rfl dX11_way_21 ?_
    refine xVi ⟨hx, hb, hml, hown, hts⟩ (kX10_everyone l N0 G _ _ Z _ _ hTn) (cwV 0 hts gX11_way_X10_everyone rfl rfl rfl (by decide +kernel) ⟨Nat.le_of_ble_eq_true rfl, Nat.le_of_ble_eq_true rfl⟩) hG hN hw hS (ci := 10) (by repeat first | assumption | exact wu_eq _ _ _ | refine wu_ne (by omega) ?_) rfl rfl hl.1 rfl (Nat.le_of_ble_eq_true rfl) dX11_way_24 ⟨Nat.le_of_ble_eq_true rfl, Nat.le_of_ble_eq_true rfl⟩ (fun r24 w24 H locs hp24 hw hS => ?_)
    obtain ⟨rfl, rfl⟩ := hp24
    first | refine xcmp_gt (tgt := 39) hx hb dX11_way_27 (by decide) (by omega) (by omega) (fun c27 => ?_) (fun c27 => ?_) | refine lv_icmp_gt (tgt := 39) hx hb dX11_way_27 (by decide) (fun c27 => ?_) (fun c27 => ?_)
    · skip
      exfalso
      omega
    · skip
      refine xiload_n hx hb dX11_way_30 hl rfl ?_
      refine xif_lt (tgt := 39) hx hb dX11_way_31 (by decide) (by omega) ?_
      refine xiload_n hx hb dX11_way_34 hl rfl ?_
      refine lv_iconst (v := nI 1) hx hb dX11_way_35 (by decide) ?_
      first | refine xcmp_le (tgt := 42) hx hb dX11_way_36 (by decide) (by omega) (by omega) (fun c36 => ?_) (fun c36 => ?_) | refine lv_icmp_le (tgt := 42) hx hb dX11_way_36 (by decide) (fun c36 => ?_) (fun c36 => ?_)
      · skip
        refine xaload_n hx hb dX11_way_42 hl rfl ?_
        refine xget (C := RX11) (T := TX11) (N := 9) hx hb (ci := 11) hts hiX11 hown hG hw (by repeat first | assumption | exact wu_eq _ _ _ | refine wu_ne (by omega) ?_) rfl 8 (by decide) hlnk1 (fun _ h9 => h9) rfl dX11_way_43 ?_
        refine lv_bipush (v := nI 40) hx hb dX11_way_46 (by decide) ?_
        first | refine xcmp_lt (tgt := 54) hx hb dX11_way_48 (by decide) (by omega) (by omega) (fun c48 => ?_) (fun c48 => ?_) | refine lv_icmp_lt (tgt := 54) hx hb dX11_way_48 (by decide) (fun c48 => ?_) (fun c48 => ?_)
        · skip
          refine xaload_n hx hb dX11_way_54 hl rfl ?_
          refine lv_dup hx hb dX11_way_55 rfl ?_
          refine xget (C := RX11) (T := TX11) (N := 9) hx hb (ci := 11) hts hiX11 hown hG hw (by repeat first | assumption | exact wu_eq _ _ _ | refine wu_ne (by omega) ?_) rfl 8 (by decide) hlnk1 (fun _ h9 => h9) rfl dX11_way_56 ?_
          refine lv_iconst (v := nI 1) hx hb dX11_way_59 (by decide) ?_
          first | refine xadd hx hb dX11_way_60 ?_ | refine lv_iadd hx hb dX11_way_60 ?_
          refine xput (C := RX11) (T := TX11) (N := 9) hx hb (ci := 11) (ty := .int) hts hiX11 tyX11 tyX11_ok nmX11 hown hG hw hS (by repeat first | assumption | exact wu_eq _ _ _ | refine wu_ne (by omega) ?_) rfl 8 (by decide) hlnk1 (fun _ h9 => h9) rfl (by decide +kernel) rfl rfl (Nat.le_of_ble_eq_true rfl) dX11_way_61 (fun H locs hzz hw hS => ?_)
          refine xaload_n hx hb dX11_way_64 hl rfl ?_
          refine xget (C := RX11) (T := TX11) (N := 9) hx hb (ci := 11) hts hiX11 hown hG hw (by repeat first | assumption | exact wu_eq _ _ _ | refine wu_ne (by omega) ?_) rfl 4 (by decide) hlnk2 (fun _ h9 => h9) rfl dX11_way_65 ?_
          refine xaload_n hx hb dX11_way_68 hl rfl ?_
          refine xget (C := RX11) (T := TX11) (N := 9) hx hb (ci := 11) hts hiX11 hown hG hw (by repeat first | assumption | exact wu_eq _ _ _ | refine wu_ne (by omega) ?_) rfl 1 (by decide) hlnk0 (fun _ h9 => h9) rfl dX11_way_69 ?_
          refine xaload hx hb dX11_way_72 hl rfl ?_
          refine xiload_n hx hb dX11_way_74 hl rfl ?_
          have hRa := hR.asks hZx
          obtain ⟨hxa, hPga, hTna, hBka, -, -, -⟩ := id hRa
          have hO0 : Out w _ x0 (x0 + 1) := Out.rf.wu (w1 := w) (e := eO 11 [.ref (x0 + 1), .ref (x0 + 3), .ref (x0 + 5), .ref (x0 + 19), .ref (x0 + 33), .ref (x0 + 37), .int (bI (sI S).isSome), .int (nI (sT S)), .int (nI (sA S + 1))]) (Nat.le_refl _) (by omega)
          have hSa := hSr.out hO0 (by omega)
          have hpia := hpi.out hO0 (by omega)
          have hsca := hSa.cell
          refine xVv ⟨hx, hb, hml, hown, hts⟩ (kX8_seek l N0 G _ _ _ _ _ _ hSa _ Z _ _ hTna (by omega) _ _ hpia (by omega) hali k (by omega)) (cwV 3 hts gX11_way_X8_seek rfl rfl rfl (by decide +kernel) ⟨Nat.le_of_ble_eq_true rfl, Nat.le_of_ble_eq_true rfl⟩) hG hN hw hS (ci := 8) hsca rfl rfl hl.1 rfl (Nat.le_of_ble_eq_true rfl) dX11_way_75 ⟨Nat.le_of_ble_eq_true rfl, Nat.le_of_ble_eq_true rfl⟩ (fun r75 w75 H locs hp75 hw hS => ?_)
          obtain ⟨hS2, hO2⟩ := hp75
          have hx2 := hO2.at (by omega) hxa
          have hsc2 := hS2.cell
          refine xiload_n hx hb dX11_way_78 hl rfl ?_
          first | refine xifb_ne (tgt := 92) hx hb dX11_way_79 (by decide) (fun c79 => ?_) (fun c79 => ?_) | refine xif_ne (tgt := 92) hx hb dX11_way_79 (by decide) (by omega) (fun c79 => ?_) (fun c79 => ?_) | refine lv_if_ne (tgt := 92) hx hb dX11_way_79 (by decide) (fun c79 => ?_) (fun c79 => ?_)
          · skip
            refine xaload_n hx hb dX11_way_92 hl rfl ?_
            refine xget (C := RX11) (T := TX11) (N := 9) hx hb (ci := 11) hts hiX11 hown hG hw (by repeat first | assumption | exact wu_eq _ _ _ | refine wu_ne (by omega) ?_) rfl 4 (by decide) hlnk2 (fun _ h9 => h9) rfl dX11_way_93 ?_
            refine xVi ⟨hx, hb, hml, hown, hts⟩ (kX8_first l N0 G _ _ _ _ _ _ hS2) (cwV 0 hts gX11_way_X8_first rfl rfl rfl (by decide +kernel) ⟨Nat.le_of_ble_eq_true rfl, Nat.le_of_ble_eq_true rfl⟩) hG hN hw hS (ci := 8) (by repeat first | assumption | exact wu_eq _ _ _ | refine wu_ne (by omega) ?_) rfl rfl hl.1 rfl (Nat.le_of_ble_eq_true rfl) dX11_way_96 ⟨Nat.le_of_ble_eq_true rfl, Nat.le_of_ble_eq_true rfl⟩ (fun r96 w96 H locs hp96 hw hS => ?_)
            obtain ⟨rfl, rfl⟩ := hp96
            exact xiret hx hb hr hlk hw hS dX11_way_99 ⟨by rw [way_y hi hi31 hk hk31 ht ht31 (by omega)]; unfold wayV; first | (rw [if_pos c79]; rfl) | (rw [if_neg c79]; rfl), by rw [way_y hi hi31 hk hk31 ht ht31 (by omega)]; exact hRa.sr hO2 hS2 hZx, (hO0.mono (by omega) (by omega)).tr hO2 (by omega) (by omega)⟩
          · skip
            refine xaload_n hx hb dX11_way_82 hl rfl ?_
            refine xget (C := RX11) (T := TX11) (N := 9) hx hb (ci := 11) hts hiX11 hown hG hw (by repeat first | assumption | exact wu_eq _ _ _ | refine wu_ne (by omega) ?_) rfl 4 (by decide) hlnk2 (fun _ h9 => h9) rfl dX11_way_83 ?_
            refine xVi ⟨hx, hb, hml, hown, hts⟩ (kX8_fewest l N0 G _ _ _ _ _ _ hS2) (cwV 0 hts gX11_way_X8_fewest rfl rfl rfl (by decide +kernel) ⟨Nat.le_of_ble_eq_true rfl, Nat.le_of_ble_eq_true rfl⟩) hG hN hw hS (ci := 8) (by repeat first | assumption | exact wu_eq _ _ _ | refine wu_ne (by omega) ?_) rfl rfl hl.1 rfl (Nat.le_of_ble_eq_true rfl) dX11_way_86 ⟨Nat.le_of_ble_eq_true rfl, Nat.le_of_ble_eq_true rfl⟩ (fun r86 w86 H locs hp86 hw hS => ?_)
            obtain ⟨rfl, rfl⟩ := hp86
            refine lv_goto (tgt := 99) hx hb dX11_way_89 (by decide) ?_
            exact xiret hx hb hr hlk hw hS dX11_way_99 ⟨by rw [way_y hi hi31 hk hk31 ht ht31 (by omega)]; unfold wayV; first | (rw [if_pos c79]; rfl) | (rw [if_neg c79]; rfl), by rw [way_y hi hi31 hk hk31 ht ht31 (by omega)]; exact hRa.sr hO2 hS2 hZx, (hO0.mono (by omega) (by omega)).tr hO2 (by omega) (by omega)⟩
        · skip
          refine lv_bipush (v := -103) hx hb dX11_way_51 (by decide) ?_
          exact xiret hx hb hr hlk hw hS dX11_way_53 ⟨by rw [way_f hi hi31 hk hk31 ht ht31 (by omega)], by rw [way_f hi hi31 hk hk31 ht ht31 (by omega)]; exact hR, Out.rf⟩
      · skip
        exfalso
        omega
  · skip
    refine xaload_n hx hb dX11_way_0 hl rfl ?_
    refine xiload_n hx hb dX11_way_1 hl rfl ?_
    refine xVr ⟨hx, hb, hml, hown, hts⟩ (kX11_penOf l N0 G _ _ Z S hR hW hZx i hi) (cwV 1 hts gX11_way_X11_penOf rfl rfl rfl (by decide +kernel) ⟨Nat.le_of_ble_eq_true rfl, Nat.le_of_ble_eq_true rfl⟩) hG hN hw hS (ci := 11) (by repeat first | assumption | exact wu_eq _ _ _ | refine wu_ne (by omega) ?_) rfl rfl hl.1 rfl (Nat.le_of_ble_eq_true rfl) dX11_way_2 ⟨Nat.le_of_ble_eq_true rfl, Nat.le_of_ble_eq_true rfl⟩ (fun r2 w2 H locs hp2 hw hS => ?_)
    obtain ⟨rfl, rfl⟩ := hp2
    refine xrf rfl ?_
    refine xastore hx hb dX11_way_5 hl (by decide) rfl (fun ls hl => ?_)
    refine xaload hx hb dX11_way_7 hl rfl ?_
    refine lv_ifnonnull (tgt := 15) hx hb dX11_way_9 (by decide) ?_
    refine xiload_n hx hb dX11_way_15 hl rfl ?_
    refine xif_lt (tgt := 39) hx hb dX11_way_16 (by decide) (by omega) ?_
    refine xiload_n hx hb dX11_way_19 hl rfl ?_
    refine xaload_n hx hb dX11_way_20 hl rfl ?_
    refine xget (C := RX11) (T := TX11) (N := 9) hx hb (ci := 11) hts hiX11 hown hG hw (by repeat first | assumption | exact wu_eq _ _ _ | refine wu_ne (by omega) ?_) rfl 1 (by decide) hlnk0 (fun _ h9 => h9) rfl dX11_way_21 ?_
    refine xVi ⟨hx, hb, hml, hown, hts⟩ (kX10_everyone l N0 G _ _ Z _ _ hTn) (cwV 0 hts gX11_way_X10_everyone rfl rfl rfl (by decide +kernel) ⟨Nat.le_of_ble_eq_true rfl, Nat.le_of_ble_eq_true rfl⟩) hG hN hw hS (ci := 10) (by repeat first | assumption | exact wu_eq _ _ _ | refine wu_ne (by omega) ?_) rfl rfl hl.1 rfl (Nat.le_of_ble_eq_true rfl) dX11_way_24 ⟨Nat.le_of_ble_eq_true rfl, Nat.le_of_ble_eq_true rfl⟩ (fun r24 w24 H locs hp24 hw hS => ?_)
    obtain ⟨rfl, rfl⟩ := hp24
    first | refine xcmp_gt (tgt := 39) hx hb dX11_way_27 (by decide) (by omega) (by omega) (fun c27 => ?_) (fun c27 => ?_) | refine lv_icmp_gt (tgt := 39) hx hb dX11_way_27 (by decide) (fun c27 => ?_) (fun c27 => ?_)
    · skip
      exfalso
      omega
    · skip
      refine xiload_n hx hb dX11_way_30 hl rfl ?_
      refine lv_if_lt (tgt := 39) hx hb dX11_way_31 (by decide) (fun c31 => ?_) (fun c31 => ?_)
      · skip
        refine lv_bipush (v := -102) hx hb dX11_way_39 (by decide) ?_
        exact xiret hx hb hr hlk hw hS dX11_way_41 ⟨by rw [o_way, onR_in hi hi31, onR_in hk hk31, onR_out hz1], by rw [o_way, onR_in hi hi31, onR_in hk hk31, onR_out hz1]; exact hR, Out.rf⟩
      · skip
        refine xiload_n hx hb dX11_way_34 hl rfl ?_
        refine lv_iconst (v := nI 1) hx hb dX11_way_35 (by decide) ?_
        refine lv_icmp_le (tgt := 42) hx hb dX11_way_36 (by decide) (fun c36 => ?_) (fun c36 => ?_)
        · skip
          exfalso
          exact hz1 (rawin0 c31 c36 (by omega))
        · skip
          refine lv_bipush (v := -102) hx hb dX11_way_39 (by decide) ?_
          exact xiret hx hb hr hlk hw hS dX11_way_41 ⟨by rw [o_way, onR_in hi hi31, onR_in hk hk31, onR_out hz1], by rw [o_way, onR_in hi hi31, onR_in hk hk31, onR_out hz1]; exact hR, Out.rf⟩
  · skip
    refine xaload_n hx hb dX11_way_0 hl rfl ?_
    refine xiload_n hx hb dX11_way_1 hl rfl ?_
    refine xVr ⟨hx, hb, hml, hown, hts⟩ (kX11_penOf l N0 G _ _ Z S hR hW hZx i hi) (cwV 1 hts gX11_way_X11_penOf rfl rfl rfl (by decide +kernel) ⟨Nat.le_of_ble_eq_true rfl, Nat.le_of_ble_eq_true rfl⟩) hG hN hw hS (ci := 11) (by repeat first | assumption | exact wu_eq _ _ _ | refine wu_ne (by omega) ?_) rfl rfl hl.1 rfl (Nat.le_of_ble_eq_true rfl) dX11_way_2 ⟨Nat.le_of_ble_eq_true rfl, Nat.le_of_ble_eq_true rfl⟩ (fun r2 w2 H locs hp2 hw hS => ?_)
    obtain ⟨rfl, rfl⟩ := hp2
    refine xrf rfl ?_
    refine xastore hx hb dX11_way_5 hl (by decide) rfl (fun ls hl => ?_)
    refine xaload hx hb dX11_way_7 hl rfl ?_
    refine lv_ifnonnull (tgt := 15) hx hb dX11_way_9 (by decide) ?_
    refine xiload_n hx hb dX11_way_15 hl rfl ?_
    refine lv_if_lt (tgt := 39) hx hb dX11_way_16 (by decide) (fun c16 => ?_) (fun c16 => ?_)
    · skip
      refine lv_bipush (v := -102) hx hb dX11_way_39 (by decide) ?_
      exact xiret hx hb hr hlk hw hS dX11_way_41 ⟨by rw [o_way, onR_in hi hi31, onR_out hy1], by rw [o_way, onR_in hi hi31, onR_out hy1]; exact hR, Out.rf⟩
    · skip
      refine xiload_n hx hb dX11_way_19 hl rfl ?_
      refine xaload_n hx hb dX11_way_20 hl rfl ?_
      refine xget (C := RX11) (T := TX11) (N := 9) hx hb (ci := 11) hts hiX11 hown hG hw (by repeat first | assumption | exact wu_eq _ _ _ | refine wu_ne (by omega) ?_) rfl 1 (by decide) hlnk0 (fun _ h9 => h9) rfl dX11_way_21 ?_
      refine xVi ⟨hx, hb, hml, hown, hts⟩ (kX10_everyone l N0 G _ _ Z _ _ hTn) (cwV 0 hts gX11_way_X10_everyone rfl rfl rfl (by decide +kernel) ⟨Nat.le_of_ble_eq_true rfl, Nat.le_of_ble_eq_true rfl⟩) hG hN hw hS (ci := 10) (by repeat first | assumption | exact wu_eq _ _ _ | refine wu_ne (by omega) ?_) rfl rfl hl.1 rfl (Nat.le_of_ble_eq_true rfl) dX11_way_24 ⟨Nat.le_of_ble_eq_true rfl, Nat.le_of_ble_eq_true rfl⟩ (fun r24 w24 H locs hp24 hw hS => ?_)
      obtain ⟨rfl, rfl⟩ := hp24
      refine lv_icmp_gt (tgt := 39) hx hb dX11_way_27 (by decide) (fun c27 => ?_) (fun c27 => ?_)
      · skip
        refine lv_bipush (v := -102) hx hb dX11_way_39 (by decide) ?_
        exact xiret hx hb hr hlk hw hS dX11_way_41 ⟨by rw [o_way, onR_in hi hi31, onR_out hy1], by rw [o_way, onR_in hi hi31, onR_out hy1]; exact hR, Out.rf⟩
      · skip
        exfalso
        exact hy1 (by have h9 := rawin3 c16 c27 (by omega); rw [show 2 ^ (sP S).length - 1 + 1 = 2 ^ sn S by omega] at h9; exact h9)
  · skip
    refine xaload_n hx hb dX11_way_0 hl rfl ?_
    refine xiload_n hx hb dX11_way_1 hl rfl ?_
    refine xVr ⟨hx, hb, hml, hown, hts⟩ (kX11_penOf l N0 G _ _ Z S hR hW hZx i hi) (cwV 1 hts gX11_way_X11_penOf rfl rfl rfl (by decide +kernel) ⟨Nat.le_of_ble_eq_true rfl, Nat.le_of_ble_eq_true rfl⟩) hG hN hw hS (ci := 11) (by repeat first | assumption | exact wu_eq _ _ _ | refine wu_ne (by omega) ?_) rfl rfl hl.1 rfl (Nat.le_of_ble_eq_true rfl) dX11_way_2 ⟨Nat.le_of_ble_eq_true rfl, Nat.le_of_ble_eq_true rfl⟩ (fun r2 w2 H locs hp2 hw hS => ?_)
    obtain ⟨rfl, rfl⟩ := hp2
    refine xrf rfl ?_
    refine xastore hx hb dX11_way_5 hl (by decide) rfl (fun ls hl => ?_)
    refine xaload hx hb dX11_way_7 hl rfl ?_
    refine lv_ifnonnull (tgt := 15) hx hb dX11_way_9 (by decide) ?_
    refine xiload_n hx hb dX11_way_15 hl rfl ?_
    refine lv_if_lt (tgt := 39) hx hb dX11_way_16 (by decide) (fun c16 => ?_) (fun c16 => ?_)
    · skip
      refine lv_bipush (v := -102) hx hb dX11_way_39 (by decide) ?_
      exact xiret hx hb hr hlk hw hS dX11_way_41 ⟨by rw [o_way, onR_in hi hi31, onR_out hy1], by rw [o_way, onR_in hi hi31, onR_out hy1]; exact hR, Out.rf⟩
    · skip
      refine xiload_n hx hb dX11_way_19 hl rfl ?_
      refine xaload_n hx hb dX11_way_20 hl rfl ?_
      refine xget (C := RX11) (T := TX11) (N := 9) hx hb (ci := 11) hts hiX11 hown hG hw (by repeat first | assumption | exact wu_eq _ _ _ | refine wu_ne (by omega) ?_) rfl 1 (by decide) hlnk0 (fun _ h9 => h9) rfl dX11_way_21 ?_
      refine xVi ⟨hx, hb, hml, hown, hts⟩ (kX10_everyone l N0 G _ _ Z _ _ hTn) (cwV 0 hts gX11_way_X10_everyone rfl rfl rfl (by decide +kernel) ⟨Nat.le_of_ble_eq_true rfl, Nat.le_of_ble_eq_true rfl⟩) hG hN hw hS (ci := 10) (by repeat first | assumption | exact wu_eq _ _ _ | refine wu_ne (by omega) ?_) rfl rfl hl.1 rfl (Nat.le_of_ble_eq_true rfl) dX11_way_24 ⟨Nat.le_of_ble_eq_true rfl, Nat.le_of_ble_eq_true rfl⟩ (fun r24 w24 H locs hp24 hw hS => ?_)
      obtain ⟨rfl, rfl⟩ := hp24
      refine lv_icmp_gt (tgt := 39) hx hb dX11_way_27 (by decide) (fun c27 => ?_) (fun c27 => ?_)
      · skip
        refine lv_bipush (v := -102) hx hb dX11_way_39 (by decide) ?_
        exact xiret hx hb hr hlk hw hS dX11_way_41 ⟨by rw [o_way, onR_in hi hi31, onR_out hy1], by rw [o_way, onR_in hi hi31, onR_out hy1]; exact hR, Out.rf⟩
      · skip
        exfalso
        exact hy1 (by have h9 := rawin3 c16 c27 (by omega); rw [show 2 ^ (sP S).length - 1 + 1 = 2 ^ sn S by omega] at h9; exact h9)
  · skip
    refine xaload_n hx hb dX11_way_0 hl rfl ?_
    refine xiload_n hx hb dX11_way_1 hl rfl ?_
    refine xVr ⟨hx, hb, hml, hown, hts⟩ (kX11_penOf_out l N0 G _ _ Z S hR hW hZx _ hx1) (cwV 1 hts gX11_way_X11_penOf rfl rfl rfl (by decide +kernel) ⟨Nat.le_of_ble_eq_true rfl, Nat.le_of_ble_eq_true rfl⟩) hG hN hw hS (ci := 11) (by repeat first | assumption | exact wu_eq _ _ _ | refine wu_ne (by omega) ?_) rfl rfl hl.1 rfl (Nat.le_of_ble_eq_true rfl) dX11_way_2 ⟨Nat.le_of_ble_eq_true rfl, Nat.le_of_ble_eq_true rfl⟩ (fun r2 w2 H locs hp2 hw hS => ?_)
    obtain ⟨rfl, rfl⟩ := hp2
    refine xrn rfl ?_
    refine xastoreN hx hb dX11_way_5 hl (by decide) rfl (fun ls hl => ?_)
    refine xaloadN hx hb dX11_way_7 hl rfl ?_
    refine lv_ifnonnullN hx hb dX11_way_9 ?_
    refine lv_bipush (v := -101) hx hb dX11_way_12 (by decide) ?_
    exact xiret hx hb hr hlk hw hS dX11_way_14 ⟨by rw [o_way, onR_out hx1], by rw [o_way, onR_out hx1]; exact hR, Out.rf⟩
  · skip
    refine xaload_n hx hb dX11_way_0 hl rfl ?_
    refine xiload_n hx hb dX11_way_1 hl rfl ?_
    refine xVr ⟨hx, hb, hml, hown, hts⟩ (kX11_penOf_out l N0 G _ _ Z S hR hW hZx _ hx1) (cwV 1 hts gX11_way_X11_penOf rfl rfl rfl (by decide +kernel) ⟨Nat.le_of_ble_eq_true rfl, Nat.le_of_ble_eq_true rfl⟩) hG hN hw hS (ci := 11) (by repeat first | assumption | exact wu_eq _ _ _ | refine wu_ne (by omega) ?_) rfl rfl hl.1 rfl (Nat.le_of_ble_eq_true rfl) dX11_way_2 ⟨Nat.le_of_ble_eq_true rfl, Nat.le_of_ble_eq_true rfl⟩ (fun r2 w2 H locs hp2 hw hS => ?_)
    obtain ⟨rfl, rfl⟩ := hp2
    refine xrn rfl ?_
    refine xastoreN hx hb dX11_way_5 hl (by decide) rfl (fun ls hl => ?_)
    refine xaloadN hx hb dX11_way_7 hl rfl ?_
    refine lv_ifnonnullN hx hb dX11_way_9 ?_
    refine lv_bipush (v := -101) hx hb dX11_way_12 (by decide) ?_
    exact xiret hx hb hr hlk hw hS dX11_way_14 ⟨by rw [o_way, onR_out hx1], by rw [o_way, onR_out hx1]; exact hR, Out.rf⟩
  · skip
    refine xaload_n hx hb dX11_way_0 hl rfl ?_
    refine xiload_n hx hb dX11_way_1 hl rfl ?_
    refine xVr ⟨hx, hb, hml, hown, hts⟩ (kX11_penOf_out l N0 G _ _ Z S hR hW hZx _ hx1) (cwV 1 hts gX11_way_X11_penOf rfl rfl rfl (by decide +kernel) ⟨Nat.le_of_ble_eq_true rfl, Nat.le_of_ble_eq_true rfl⟩) hG hN hw hS (ci := 11) (by repeat first | assumption | exact wu_eq _ _ _ | refine wu_ne (by omega) ?_) rfl rfl hl.1 rfl (Nat.le_of_ble_eq_true rfl) dX11_way_2 ⟨Nat.le_of_ble_eq_true rfl, Nat.le_of_ble_eq_true rfl⟩ (fun r2 w2 H locs hp2 hw hS => ?_)
    obtain ⟨rfl, rfl⟩ := hp2
    refine xrn rfl ?_
    refine xastoreN hx hb dX11_way_5 hl (by decide) rfl (fun ls hl => ?_)
    refine xaloadN hx hb dX11_way_7 hl rfl ?_
    refine lv_ifnonnullN hx hb dX11_way_9 ?_
    refine lv_bipush (v := -101) hx hb dX11_way_12 (by decide) ?_
    exact xiret hx hb hr hlk hw hS dX11_way_14 ⟨by rw [o_way, onR_out hx1], by rw [o_way, onR_out hx1]; exact hR, Out.rf⟩
  · skip
    refine xaload_n hx hb dX11_way_0 hl rfl ?_
    refine xiload_n hx hb dX11_way_1 hl rfl ?_
    refine xVr ⟨hx, hb, hml, hown, hts⟩ (kX11_penOf_out l N0 G _ _ Z S hR hW hZx _ hx1) (cwV 1 hts gX11_way_X11_penOf rfl rfl rfl (by decide +kernel) ⟨Nat.le_of_ble_eq_true rfl, Nat.le_of_ble_eq_true rfl⟩) hG hN hw hS (ci := 11) (by repeat first | assumption | exact wu_eq _ _ _ | refine wu_ne (by omega) ?_) rfl rfl hl.1 rfl (Nat.le_of_ble_eq_true rfl) dX11_way_2 ⟨Nat.le_of_ble_eq_true rfl, Nat.le_of_ble_eq_true rfl⟩ (fun r2 w2 H locs hp2 hw hS => ?_)
    obtain ⟨rfl, rfl⟩ := hp2
    refine xrn rfl ?_
    refine xastoreN hx hb dX11_way_5 hl (by decide) rfl (fun ls hl => ?_)
    refine xaloadN hx hb dX11_way_7 hl rfl ?_
    refine lv_ifnonnullN hx hb dX11_way_9 ?_
    refine lv_bipush (v := -101) hx hb dX11_way_12 (by decide) ?_
    exact xiret hx hb hr hlk hw hS dX11_way_14 ⟨by rw [o_way, onR_out hx1], by rw [o_way, onR_out hx1]; exact hR, Out.rf⟩
