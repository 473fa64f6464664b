theorem wiB_y {k a b : Nat} (h1 : a ≤ k) (h2 : k ≤ b) (hb : b < 2 ^ 31) : wiB (nI k) (nI a) (nI b) = true := by
  rw [wiB_ab (by omega) hb, nI_toInt (by omega)]
  exact decide_eq_true ⟨by omega, by omega⟩
theorem wiB_n {x : Int32} {b n : Nat} (h : ¬ inR x n) (e : n = b + 1 ∧ b < 2 ^ 31) : wiB x (nI 0) (nI b) = false := by
  rw [wiB_ab (by omega) e.2]
  refine decide_eq_false (fun z => h ⟨by have := z.1; omega, by have := z.2; omega⟩)
theorem nI_nm1 {b : Nat} (h : b < 2 ^ 31) : nI b ≠ -1 := fun e => by
  have h1 := congrArg Int32.toInt e
  rw [nI_toInt h] at h1
  have h2 : ((-1 : Int32)).toInt = -1 := by decide
  omega
def fwr (o : Option Nat) (m : Nat) : Bool := match o with | none => true | some b => decide (pcN m < pcN b)
theorem fGo_nx {ok : Nat → Bool} {m : Nat} : oI (fGo ok (m + 1)) = if (fwr (fGo ok m) m && ok m) = true then nI m else oI (fGo ok m) := by
  rw [fGo]
  cases hq : fGo ok m with
  | none =>
    cases h : ok m with
    | true => rfl
    | false => rfl
  | some b =>
    cases h : ok m with
    | true =>
      by_cases h2 : pcN m < pcN b
      · simp [fwr, h2, oI]
      · simp [fwr, h2, oI]
    | false => simp [fwr, oI]
theorem fGo_y {ok : Nat → Bool} {m : Nat} (h1 : fwr (fGo ok m) m = true) (h2 : ok m = true) : nI m = oI (fGo ok (m + 1)) := by
  rw [fGo_nx, h1, h2]; rfl
theorem fGo_n {ok : Nat → Bool} {m : Nat} {x : Int32} (h1 : fwr (fGo ok m) m = false) (h2 : x = oI (fGo ok m)) : x = oI (fGo ok (m + 1)) := by
  rw [fGo_nx, h1]; exact h2
theorem fGo_o {ok : Nat → Bool} {m : Nat} {x : Int32} (h1 : ok m = false) (h2 : x = oI (fGo ok m)) : x = oI (fGo ok (m + 1)) := by
  rw [fGo_nx, h1, Bool.and_false]; exact h2
theorem brk_in {ds : List (Nat × Nat)} {st : Nat} : ∀ n, (∀ d, d < n → brk1 ds st d = true) → allTo (brk1 ds st) n = true
  | 0, _ => rfl
  | n + 1, h => allTo_s (brk_in n (fun d hd => h d (by omega))) (h n (by omega))
theorem brk_all {ds : List (Nat × Nat)} {n : Nat} (h : ∀ d, d < ds.length → bd ds d < 2 ^ n) : brkA ds (2 ^ n - 1) = true := by
  refine brk_in _ (fun d hd => ?_)
  unfold brk1
  rw [Nat.and_two_pow_sub_one_eq_mod, Nat.mod_eq_of_lt (h d hd)]
  by_cases q : bd ds d = 0
  · simp [q]
  · simp [q]
theorem eu (a b : Nat) : Nat.gcd b (a % b) = Nat.gcd a b := by
  rw [Nat.gcd_comm a b, Nat.gcd_rec b a, Nat.gcd_comm]
set_option maxHeartbeats 4000000 in
set_option maxRecDepth 100000 in
theorem kX12_deedNow (l : Launch) (N0 : Nat) (G : XG) (w : Wd) (M0 : Nat) (V : Nat → Value) (A : Nat → Nat → Int32) (hM : MW G w M0 V A) (S : QS) (hR : RM S V A) (hL : WB S) (d k : Nat) (hd : d < (sd S).length) (hk : k < 3) : XM l yX12_deedNow wsX12_deedNow (rmD 3) N0 G [.ref M0, .int (nI d), .int (nI k)] w vI (fun r w1 => deedV S d k = r ∧ w = w1) 0 0 := by
  refine XM.of (cc := cX12_deedNow) (maxL := 3) (ret := (some .int)) (by decide) rfl (Nat.le_of_ble_eq_true rfl) ?_
  intro p e s m below meth c hx hb hr hlk hin0 hml hown hts hN hw hG hS ls hl
  have hown : s.vm.findClass RX12 = some m.cls := hown
  have hiX12 : ∀ x ∈ u_ws RX12 TX12 37, x ∈ wsX12_deedNow := by decide +kernel
  have hlnk0 := hts (.fieldLink RX12 25 "LentQuillModel" "boundOf" "[I") (by decide +kernel)
  have hlnk1 := hts (.fieldLink RX12 22 "LentQuillModel" "debtOf" "[I") (by decide +kernel)
  have hl : lh ls 3 [some (.ref M0), some (.int (nI d)), some (.int (nI k))] := hl
  obtain ⟨hm0, ⟨hv3, hv4, hv5, hv6, hv8, hv9, hv11, hv12, hv15, hv18, hv19, hv20, hv24, hv30, hv31, hv32, hv33, hv34, hv35⟩, ha1, ha2, ha3, ha4, ha5, ha6, ha7, ha8, ha9, ha10, ha11, ha12, ha13, ha14, ha15, ha16, ha17, ha18, ha19⟩ := id hM
  obtain ⟨ht, hn, hlm, hdn, hhn, has, hpl, hkw, hRB, hpg, hkp⟩ := id hR
  obtain ⟨hn5, hl5, hkd, hsp, hd6, hdw, hh6, hg18, hgr, hIm⟩ := id hL
  have hb5 : A 5 d = nI (dbt (sd S) d) := (hRB.2.1 d hd).1
  have hb6 : A 6 d = nI (bd (sd S) d) := (hRB.2.1 d hd).2
  refine xiload_n hx hb dX12_deedNow_0 hl rfl ?_
  first | refine xifb_ne (tgt := 13) hx hb dX12_deedNow_1 (by decide) (fun c1 => ?_) (fun c1 => ?_) | refine xif_ne (tgt := 13) hx hb dX12_deedNow_1 (by decide) (by omega) (fun c1 => ?_) (fun c1 => ?_) | refine lv_if_ne (tgt := 13) hx hb dX12_deedNow_1 (by decide) (fun c1 => ?_) (fun c1 => ?_)
  · skip
    refine xiload_n hx hb dX12_deedNow_13 hl rfl ?_
    refine lv_iconst (v := nI 1) hx hb dX12_deedNow_14 (by decide) ?_
    first | refine xcmp_ne (tgt := 27) hx hb dX12_deedNow_15 (by decide) (by omega) (by omega) (fun c15 => ?_) (fun c15 => ?_) | refine lv_icmp_ne (tgt := 27) hx hb dX12_deedNow_15 (by decide) (fun c15 => ?_) (fun c15 => ?_)
    · skip
      refine xaload_n hx hb dX12_deedNow_27 hl rfl ?_
      refine xiload_n hx hb dX12_deedNow_28 hl rfl ?_
      refine xVi ⟨hx, hb, hml, hown, hts⟩ (kX12_sureOf l N0 G _ _ V A hM S hR hL d hd) (cwV 1 hts gX12_deedNow_X12_sureOf rfl rfl rfl (by decide +kernel) ⟨Nat.le_of_ble_eq_true rfl, Nat.le_of_ble_eq_true rfl⟩) hG hN hw hS (ci := 12) (by repeat first | assumption | exact wu_eq _ _ _ | refine wu_ne (by omega) ?_) rfl rfl hl.1 rfl (Nat.le_of_ble_eq_true rfl) dX12_deedNow_29 ⟨Nat.le_of_ble_eq_true rfl, Nat.le_of_ble_eq_true rfl⟩ (fun r29 w29 H locs hp29 hw hS => ?_)
      obtain ⟨rfl, rfl⟩ := hp29
      exact xiret hx hb hr hlk hw hS dX12_deedNow_32 ⟨by unfold deedV; first | rw [if_pos c1] | rw [if_neg c1, if_pos c15] | rw [if_neg c1, if_neg c15], rfl⟩
    · skip
      refine xaload_n hx hb dX12_deedNow_18 hl rfl ?_
      refine xgetM hx hb hts hiX12 hown hG hw (by repeat first | assumption | exact wu_eq _ _ _ | refine wu_ne (by omega) ?_) 9 (by decide) hlnk0 (by repeat first | assumption | exact vu_eq _ _ _ | refine vu_ne (by decide) ?_) dX12_deedNow_19 ?_
      refine xiload_n hx hb dX12_deedNow_22 hl rfl ?_
      refine xiald hx hb hG hw (by repeat first | assumption | exact wu_eq _ _ _ | refine wu_ne (by omega) ?_) (by omega) (by omega) dX12_deedNow_23 ?_
      refine xtop hb6 ?_
      refine lv_goto (tgt := 32) hx hb dX12_deedNow_24 (by decide) ?_
      exact xiret hx hb hr hlk hw hS dX12_deedNow_32 ⟨by unfold deedV; first | rw [if_pos c1] | rw [if_neg c1, if_pos c15] | rw [if_neg c1, if_neg c15], rfl⟩
  · skip
    refine xaload_n hx hb dX12_deedNow_4 hl rfl ?_
    refine xgetM hx hb hts hiX12 hown hG hw (by repeat first | assumption | exact wu_eq _ _ _ | refine wu_ne (by omega) ?_) 8 (by decide) hlnk1 (by repeat first | assumption | exact vu_eq _ _ _ | refine vu_ne (by decide) ?_) dX12_deedNow_5 ?_
    refine xiload_n hx hb dX12_deedNow_8 hl rfl ?_
    refine xiald hx hb hG hw (by repeat first | assumption | exact wu_eq _ _ _ | refine wu_ne (by omega) ?_) (by omega) (by omega) dX12_deedNow_9 ?_
    refine xtop hb5 ?_
    refine lv_goto (tgt := 32) hx hb dX12_deedNow_10 (by decide) ?_
    exact xiret hx hb hr hlk hw hS dX12_deedNow_32 ⟨by unfold deedV; first | rw [if_pos c1] | rw [if_neg c1, if_pos c15] | rw [if_neg c1, if_neg c15], rfl⟩
set_option maxHeartbeats 4000000 in
set_option maxRecDepth 100000 in
theorem kX12_deed (l : Launch) (N0 : Nat) (G : XG) (w : Wd) (M0 : Nat) (V : Nat → Value) (A : Nat → Nat → Int32) (hM : MW G w M0 V A) (S : QS) (hR : RM S V A) (hL : WB S) (x y : Int32) : XM l yX12_deed wsX12_deed (rmD 4) N0 G [.ref M0, .int x, .int y] w vI (fun r w1 => v_deed S x y = r ∧ w = w1) 0 0 := by
  refine XM.of (cc := cX12_deed) (maxL := 3) (ret := (some .int)) (by decide) rfl (Nat.le_of_ble_eq_true rfl) ?_
  intro p e s m below meth c hx hb hr hlk hin0 hml hown hts hN hw hG hS ls hl
  have hown : s.vm.findClass RX12 = some m.cls := hown
  have hl : lh ls 3 [some (.ref M0), some (.int x), some (.int y)] := hl
  obtain ⟨hm0, ⟨hv3, hv4, hv5, hv6, hv8, hv9, hv11, hv12, hv15, hv18, hv19, hv20, hv24, hv30, hv31, hv32, hv33, hv34, hv35⟩, ha1, ha2, ha3, ha4, ha5, ha6, ha7, ha8, ha9, ha10, ha11, ha12, ha13, ha14, ha15, ha16, ha17, ha18, ha19⟩ := id hM
  obtain ⟨ht, hn, hlm, hdn, hhn, has, hpl, hkw, hRB, hpg, hkp⟩ := id hR
  obtain ⟨hn5, hl5, hkd, hsp, hd6, hdw, hh6, hg18, hgr, hIm⟩ := id hL
  rcases inR_or x (sd S).length with ⟨i, hi, hi31, rfl⟩ | hx1 <;> rcases inR_or y 3 with ⟨k, hk, hk31, rfl⟩ | hy1
  · skip
    refine xaload_n hx hb dX12_deed_0 hl rfl ?_
    refine xiload_n hx hb dX12_deed_1 hl rfl ?_
    refine xVi ⟨hx, hb, hml, hown, hts⟩ (kX12_isDeed l N0 G _ _ V A hM S hR hL _) (cwV 1 hts gX12_deed_X12_isDeed rfl rfl rfl (by decide +kernel) ⟨Nat.le_of_ble_eq_true rfl, Nat.le_of_ble_eq_true rfl⟩) hG hN hw hS (ci := 12) (by repeat first | assumption | exact wu_eq _ _ _ | refine wu_ne (by omega) ?_) rfl rfl hl.1 rfl (Nat.le_of_ble_eq_true rfl) dX12_deed_2 ⟨Nat.le_of_ble_eq_true rfl, Nat.le_of_ble_eq_true rfl⟩ (fun r2 w2 H locs hp2 hw hS => ?_)
    obtain ⟨rfl, rfl⟩ := hp2
    refine xtop (y := bI true) (congrArg bI (decide_eq_true (inR_nI hi (by omega)))) ?_
    first | refine xifb_ne (tgt := 13) hx hb dX12_deed_5 (by decide) (fun c5 => ?_) (fun c5 => ?_) | refine xif_ne (tgt := 13) hx hb dX12_deed_5 (by decide) (by omega) (fun c5 => ?_) (fun c5 => ?_) | refine lv_if_ne (tgt := 13) hx hb dX12_deed_5 (by decide) (fun c5 => ?_) (fun c5 => ?_)
    · skip
      refine xiload_n hx hb dX12_deed_13 hl rfl ?_
      refine lv_iconst (v := nI 0) hx hb dX12_deed_14 (by decide) ?_
      refine lv_iconst (v := nI 2) hx hb dX12_deed_15 (by decide) ?_
      refine xSi ⟨hx, hb, hml, hown, hts⟩ (kX12_within l N0 G _ _ _ _) (va_cwS 3 hts gX12_deed_X12_within rfl rfl rfl (by decide +kernel) ⟨Nat.le_of_ble_eq_true rfl, Nat.le_of_ble_eq_true rfl⟩) hG hN hw hS rfl hl.1 rfl (Nat.le_of_ble_eq_true rfl) dX12_deed_16 ⟨Nat.le_of_ble_eq_true rfl, Nat.le_of_ble_eq_true rfl⟩ (fun r16 w16 H locs hp16 hw hS => ?_)
      obtain ⟨rfl, rfl⟩ := hp16
      refine xtop (y := bI true) (congrArg bI (wiB_y (by omega) (by omega) (by omega))) ?_
      first | refine xifb_eq (tgt := 31) hx hb dX12_deed_19 (by decide) (fun c19 => ?_) (fun c19 => ?_) | refine xif_eq (tgt := 31) hx hb dX12_deed_19 (by decide) (by omega) (fun c19 => ?_) (fun c19 => ?_) | refine lv_if_eq (tgt := 31) hx hb dX12_deed_19 (by decide) (fun c19 => ?_) (fun c19 => ?_)
      · skip
        exfalso
        cases c19
      · skip
        refine xaload_n hx hb dX12_deed_22 hl rfl ?_
        refine xiload_n hx hb dX12_deed_23 hl rfl ?_
        refine xiload_n hx hb dX12_deed_24 hl rfl ?_
        refine xVi ⟨hx, hb, hml, hown, hts⟩ (kX12_deedNow l N0 G _ _ V A hM S hR hL i k hi hk) (cwV 2 hts gX12_deed_X12_deedNow rfl rfl rfl (by decide +kernel) ⟨Nat.le_of_ble_eq_true rfl, Nat.le_of_ble_eq_true rfl⟩) hG hN hw hS (ci := 12) (by repeat first | assumption | exact wu_eq _ _ _ | refine wu_ne (by omega) ?_) rfl rfl hl.1 rfl (Nat.le_of_ble_eq_true rfl) dX12_deed_25 ⟨Nat.le_of_ble_eq_true rfl, Nat.le_of_ble_eq_true rfl⟩ (fun r25 w25 H locs hp25 hw hS => ?_)
        obtain ⟨rfl, rfl⟩ := hp25
        refine lv_goto (tgt := 33) hx hb dX12_deed_28 (by decide) ?_
        exact xiret hx hb hr hlk hw hS dX12_deed_33 ⟨by rw [v_deed, onR_in hi hi31, onR_in hk hk31], rfl⟩
    · skip
      exfalso
      cases c5
  · skip
    refine xaload_n hx hb dX12_deed_0 hl rfl ?_
    refine xiload_n hx hb dX12_deed_1 hl rfl ?_
    refine xVi ⟨hx, hb, hml, hown, hts⟩ (kX12_isDeed l N0 G _ _ V A hM S hR hL _) (cwV 1 hts gX12_deed_X12_isDeed rfl rfl rfl (by decide +kernel) ⟨Nat.le_of_ble_eq_true rfl, Nat.le_of_ble_eq_true rfl⟩) hG hN hw hS (ci := 12) (by repeat first | assumption | exact wu_eq _ _ _ | refine wu_ne (by omega) ?_) rfl rfl hl.1 rfl (Nat.le_of_ble_eq_true rfl) dX12_deed_2 ⟨Nat.le_of_ble_eq_true rfl, Nat.le_of_ble_eq_true rfl⟩ (fun r2 w2 H locs hp2 hw hS => ?_)
    obtain ⟨rfl, rfl⟩ := hp2
    refine xtop (y := bI true) (congrArg bI (decide_eq_true (inR_nI hi (by omega)))) ?_
    first | refine xifb_ne (tgt := 13) hx hb dX12_deed_5 (by decide) (fun c5 => ?_) (fun c5 => ?_) | refine xif_ne (tgt := 13) hx hb dX12_deed_5 (by decide) (by omega) (fun c5 => ?_) (fun c5 => ?_) | refine lv_if_ne (tgt := 13) hx hb dX12_deed_5 (by decide) (fun c5 => ?_) (fun c5 => ?_)
    · skip
      refine xiload_n hx hb dX12_deed_13 hl rfl ?_
      refine lv_iconst (v := nI 0) hx hb dX12_deed_14 (by decide) ?_
      refine lv_iconst (v := nI 2) hx hb dX12_deed_15 (by decide) ?_
      refine xSi ⟨hx, hb, hml, hown, hts⟩ (kX12_within l N0 G _ _ _ _) (va_cwS 3 hts gX12_deed_X12_within rfl rfl rfl (by decide +kernel) ⟨Nat.le_of_ble_eq_true rfl, Nat.le_of_ble_eq_true rfl⟩) hG hN hw hS rfl hl.1 rfl (Nat.le_of_ble_eq_true rfl) dX12_deed_16 ⟨Nat.le_of_ble_eq_true rfl, Nat.le_of_ble_eq_true rfl⟩ (fun r16 w16 H locs hp16 hw hS => ?_)
      obtain ⟨rfl, rfl⟩ := hp16
      refine xtop (y := bI false) (congrArg bI (wiB_n hy1 (by omega))) ?_
      first | refine xifb_eq (tgt := 31) hx hb dX12_deed_19 (by decide) (fun c19 => ?_) (fun c19 => ?_) | refine xif_eq (tgt := 31) hx hb dX12_deed_19 (by decide) (by omega) (fun c19 => ?_) (fun c19 => ?_) | refine lv_if_eq (tgt := 31) hx hb dX12_deed_19 (by decide) (fun c19 => ?_) (fun c19 => ?_)
      · skip
        refine lv_bipush (v := -102) hx hb dX12_deed_31 (by decide) ?_
        exact xiret hx hb hr hlk hw hS dX12_deed_33 ⟨by rw [v_deed, onR_in hi hi31, onR_out hy1], rfl⟩
      · skip
        exfalso
        cases c19
    · skip
      exfalso
      cases c5
  · skip
    refine xaload_n hx hb dX12_deed_0 hl rfl ?_
    refine xiload_n hx hb dX12_deed_1 hl rfl ?_
    refine xVi ⟨hx, hb, hml, hown, hts⟩ (kX12_isDeed l N0 G _ _ V A hM S hR hL _) (cwV 1 hts gX12_deed_X12_isDeed rfl rfl rfl (by decide +kernel) ⟨Nat.le_of_ble_eq_true rfl, Nat.le_of_ble_eq_true rfl⟩) hG hN hw hS (ci := 12) (by repeat first | assumption | exact wu_eq _ _ _ | refine wu_ne (by omega) ?_) rfl rfl hl.1 rfl (Nat.le_of_ble_eq_true rfl) dX12_deed_2 ⟨Nat.le_of_ble_eq_true rfl, Nat.le_of_ble_eq_true rfl⟩ (fun r2 w2 H locs hp2 hw hS => ?_)
    obtain ⟨rfl, rfl⟩ := hp2
    refine xtop (y := bI false) (congrArg bI (decide_eq_false hx1)) ?_
    first | refine xifb_ne (tgt := 13) hx hb dX12_deed_5 (by decide) (fun c5 => ?_) (fun c5 => ?_) | refine xif_ne (tgt := 13) hx hb dX12_deed_5 (by decide) (by omega) (fun c5 => ?_) (fun c5 => ?_) | refine lv_if_ne (tgt := 13) hx hb dX12_deed_5 (by decide) (fun c5 => ?_) (fun c5 => ?_)
    · skip
      exfalso
      cases c5
    · skip
      refine lv_bipush (v := -101) hx hb dX12_deed_8 (by decide) ?_
      refine lv_goto (tgt := 33) hx hb dX12_deed_10 (by decide) ?_
      exact xiret hx hb hr hlk hw hS dX12_deed_33 ⟨by rw [v_deed, onR_out hx1], rfl⟩
  · skip
    refine xaload_n hx hb dX12_deed_0 hl rfl ?_
    refine xiload_n hx hb dX12_deed_1 hl rfl ?_
    refine xVi ⟨hx, hb, hml, hown, hts⟩ (kX12_isDeed l N0 G _ _ V A hM S hR hL _) (cwV 1 hts gX12_deed_X12_isDeed rfl rfl rfl (by decide +kernel) ⟨Nat.le_of_ble_eq_true rfl, Nat.le_of_ble_eq_true rfl⟩) hG hN hw hS (ci := 12) (by repeat first | assumption | exact wu_eq _ _ _ | refine wu_ne (by omega) ?_) rfl rfl hl.1 rfl (Nat.le_of_ble_eq_true rfl) dX12_deed_2 ⟨Nat.le_of_ble_eq_true rfl, Nat.le_of_ble_eq_true rfl⟩ (fun r2 w2 H locs hp2 hw hS => ?_)
    obtain ⟨rfl, rfl⟩ := hp2
    refine xtop (y := bI false) (congrArg bI (decide_eq_false hx1)) ?_
    first | refine xifb_ne (tgt := 13) hx hb dX12_deed_5 (by decide) (fun c5 => ?_) (fun c5 => ?_) | refine xif_ne (tgt := 13) hx hb dX12_deed_5 (by decide) (by omega) (fun c5 => ?_) (fun c5 => ?_) | refine lv_if_ne (tgt := 13) hx hb dX12_deed_5 (by decide) (fun c5 => ?_) (fun c5 => ?_)
    · skip
      exfalso
      cases c5
    · skip
      refine lv_bipush (v := -101) hx hb dX12_deed_8 (by decide) ?_
      refine lv_goto (tgt := 33) hx hb dX12_deed_10 (by decide) ?_
      exact xiret hx hb hr hlk hw hS dX12_deed_33 ⟨by rw [v_deed, onR_out hx1], rfl⟩
set_option maxHeartbeats 4000000 in
set_option maxRecDepth 100000 in
theorem kX12_isFound (l : Launch) (N0 : Nat) (G : XG) (w : Wd) (M0 : Nat) (V : Nat → Value) (A : Nat → Nat → Int32) (hM : MW G w M0 V A) (S : QS) (hR : RM S V A) (hL : WB S) (st : Nat) (hst : st < 32) : XM l yX12_isFound wsX12_isFound (rmD 1) N0 G [.ref M0, .int (nI st)] w vI (fun r w1 => bI (brkA (sd S) st) = r ∧ w = w1) 0 0 := by
  refine XM.of (cc := cX12_isFound) (maxL := 4) (ret := (some .boolean)) (by decide) rfl (Nat.le_of_ble_eq_true rfl) ?_
  intro p e s m below meth c hx hb hr hlk hin0 hml hown hts hN hw hG hS ls hl
  have hown : s.vm.findClass RX12 = some m.cls := hown
  have hiX12 : ∀ x ∈ u_ws RX12 TX12 37, x ∈ wsX12_isFound := by decide +kernel
  have hlnk0 := hts (.fieldLink RX12 103 "LentQuillModel" "deeds" "I") (by decide +kernel)
  have hlnk1 := hts (.fieldLink RX12 25 "LentQuillModel" "boundOf" "[I") (by decide +kernel)
  have hl : lh ls 4 [some (.ref M0), some (.int (nI st)), none, none] := hl
  obtain ⟨hm0, ⟨hv3, hv4, hv5, hv6, hv8, hv9, hv11, hv12, hv15, hv18, hv19, hv20, hv24, hv30, hv31, hv32, hv33, hv34, hv35⟩, ha1, ha2, ha3, ha4, ha5, ha6, ha7, ha8, ha9, ha10, ha11, ha12, ha13, ha14, ha15, ha16, ha17, ha18, ha19⟩ := id hM
  obtain ⟨ht, hn, hlm, hdn, hhn, has, hpl, hkw, hRB, hpg, hkp⟩ := id hR
  obtain ⟨hn5, hl5, hkd, hsp, hd6, hdw, hh6, hg18, hgr, hIm⟩ := id hL
  refine lv_iconst (v := nI 1) hx hb dX12_isFound_0 (by decide) ?_
  refine xistore_n hx hb dX12_isFound_1 hl (by decide) rfl (fun ls hl => ?_)
  refine lv_iconst (v := nI 0) hx hb dX12_isFound_2 (by decide) ?_
  refine xistore_n hx hb dX12_isFound_3 hl (by decide) rfl (fun ls hl => ?_)
  have loop4 : ∀ (nf : Nat) (k : Nat) (H : Heap) (locs : List Loc) (ls : Array Slot), (sd S).length - k < nf → (k ≤ (sd S).length) → PW N0 G w H → va_S (fun q => N0 ≤ q) s.heap H locs → lh ls 4 [some (.ref M0), some (.int (nI st)), some (.int (bI (allTo (brk1 (sd S) st) k))), some (.int (nI k))] → W p l e (rmD 1) s m ([.ref M0, .int (nI st)] : List Value).toArray below meth c H locs 0 0 (MQ below (XQ N0 G vI (fun r w1 => bI (brkA (sd S) st) = r ∧ w = w1)) ([.ref M0, .int (nI st)] : List Value).toArray s 0 0 (fun q => N0 ≤ q)) (F0 m 4 ls []) := by
    intro nf
    induction nf with
    | zero => intros; omega
    | succ nf ih4 =>
      intro k H locs ls hnf hk hw hS hl
      refine xiload_n hx hb dX12_isFound_4 hl rfl ?_
      refine xaload_n hx hb dX12_isFound_5 hl rfl ?_
      refine xgetM hx hb hts hiX12 hown hG hw (by repeat first | assumption | exact wu_eq _ _ _ | refine wu_ne (by omega) ?_) 7 (by decide) hlnk0 (by repeat first | assumption | exact vu_eq _ _ _ | refine vu_ne (by decide) ?_) dX12_isFound_6 ?_
      first | refine xcmp_ge (tgt := 48) hx hb dX12_isFound_9 (by decide) (by omega) (by omega) (fun c9 => ?_) (fun c9 => ?_) | refine lv_icmp_ge (tgt := 48) hx hb dX12_isFound_9 (by decide) (fun c9 => ?_) (fun c9 => ?_)
      · skip
        refine xiload_n hx hb dX12_isFound_48 hl rfl ?_
        exact xzret hx hb hr hlk hw hS dX12_isFound_49 _ rfl ⟨congrArg bI (by unfold brkA; rw [show (sd S).length = k by omega]), rfl⟩
      · skip
        have hb6 : A 6 k = nI (bd (sd S) k) := (hRB.2.1 k (by show k < (sd S).length; omega)).2
        have hb32 := (hdw k (by omega)).2
        have hand : bd (sd S) k &&& st ≤ bd (sd S) k := Nat.and_le_left
        refine xiload_n hx hb dX12_isFound_12 hl rfl ?_
        first | refine xifb_eq (tgt := 40) hx hb dX12_isFound_13 (by decide) (fun c13 => ?_) (fun c13 => ?_) | refine xif_eq (tgt := 40) hx hb dX12_isFound_13 (by decide) (by omega) (fun c13 => ?_) (fun c13 => ?_) | refine lv_if_eq (tgt := 40) hx hb dX12_isFound_13 (by decide) (fun c13 => ?_) (fun c13 => ?_)
        · skip
          refine lv_iconst (v := nI 0) hx hb dX12_isFound_40 (by decide) ?_
          refine xtop (y := bI (allTo (brk1 (sd S) st) (k + 1))) (by show _ = bI (allTo _ k && brk1 _ _ k); rw [c13]; first | rfl | (unfold brk1; rw [decide_eq_true c22]; rfl) | (unfold brk1; rw [decide_eq_false c22, decide_eq_true c33]; rfl) | (unfold brk1; rw [decide_eq_false c22, decide_eq_false (fun z => z c33)]; rfl)) ?_
          refine xistore_n hx hb dX12_isFound_41 hl (by decide) rfl (fun ls hl => ?_)
          first | refine xiincN hx hb 1 dX12_isFound_42 hl rfl (by decide) (by decide) rfl (fun ls hl => ?_) | refine xiinc hx hb dX12_isFound_42 hl rfl rfl (by decide) rfl (fun ls hl => ?_)
          refine lv_goto (tgt := 4) hx hb dX12_isFound_45 (by decide) ?_
          exact ih4 (k + 1) _ _ _ (by omega) (by omega) hw hS hl
        · skip
          refine xaload_n hx hb dX12_isFound_16 hl rfl ?_
          refine xgetM hx hb hts hiX12 hown hG hw (by repeat first | assumption | exact wu_eq _ _ _ | refine wu_ne (by omega) ?_) 9 (by decide) hlnk1 (by repeat first | assumption | exact vu_eq _ _ _ | refine vu_ne (by decide) ?_) dX12_isFound_17 ?_
          refine xiload_n hx hb dX12_isFound_20 hl rfl ?_
          refine xiald hx hb hG hw (by repeat first | assumption | exact wu_eq _ _ _ | refine wu_ne (by omega) ?_) (by omega) (by omega) dX12_isFound_21 ?_
          refine xtop hb6 ?_
          first | refine xifb_eq (tgt := 36) hx hb dX12_isFound_22 (by decide) (fun c22 => ?_) (fun c22 => ?_) | refine xif_eq (tgt := 36) hx hb dX12_isFound_22 (by decide) (by omega) (fun c22 => ?_) (fun c22 => ?_) | refine lv_if_eq (tgt := 36) hx hb dX12_isFound_22 (by decide) (fun c22 => ?_) (fun c22 => ?_)
          · skip
            refine lv_iconst (v := nI 1) hx hb dX12_isFound_36 (by decide) ?_
            refine lv_goto (tgt := 41) hx hb dX12_isFound_37 (by decide) ?_
            refine xtop (y := bI (allTo (brk1 (sd S) st) (k + 1))) (by show _ = bI (allTo _ k && brk1 _ _ k); rw [c13]; first | rfl | (unfold brk1; rw [decide_eq_true c22]; rfl) | (unfold brk1; rw [decide_eq_false c22, decide_eq_true c33]; rfl) | (unfold brk1; rw [decide_eq_false c22, decide_eq_false (fun z => z c33)]; rfl)) ?_
            refine xistore_n hx hb dX12_isFound_41 hl (by decide) rfl (fun ls hl => ?_)
            first | refine xiincN hx hb 1 dX12_isFound_42 hl rfl (by decide) (by decide) rfl (fun ls hl => ?_) | refine xiinc hx hb dX12_isFound_42 hl rfl rfl (by decide) rfl (fun ls hl => ?_)
            refine lv_goto (tgt := 4) hx hb dX12_isFound_45 (by decide) ?_
            exact ih4 (k + 1) _ _ _ (by omega) (by omega) hw hS hl
          · skip
            refine xaload_n hx hb dX12_isFound_25 hl rfl ?_
            refine xgetM hx hb hts hiX12 hown hG hw (by repeat first | assumption | exact wu_eq _ _ _ | refine wu_ne (by omega) ?_) 9 (by decide) hlnk1 (by repeat first | assumption | exact vu_eq _ _ _ | refine vu_ne (by decide) ?_) dX12_isFound_26 ?_
            refine xiload_n hx hb dX12_isFound_29 hl rfl ?_
            refine xiald hx hb hG hw (by repeat first | assumption | exact wu_eq _ _ _ | refine wu_ne (by omega) ?_) (by omega) (by omega) dX12_isFound_30 ?_
            refine xtop hb6 ?_
            refine xiload_n hx hb dX12_isFound_31 hl rfl ?_
            first | refine xand hx hb dX12_isFound_32 ?_ | refine lv_iand hx hb dX12_isFound_32 ?_
            first | refine xifb_eq (tgt := 40) hx hb dX12_isFound_33 (by decide) (fun c33 => ?_) (fun c33 => ?_) | refine xif_eq (tgt := 40) hx hb dX12_isFound_33 (by decide) (by omega) (fun c33 => ?_) (fun c33 => ?_) | refine lv_if_eq (tgt := 40) hx hb dX12_isFound_33 (by decide) (fun c33 => ?_) (fun c33 => ?_)
            · skip
              refine lv_iconst (v := nI 0) hx hb dX12_isFound_40 (by decide) ?_
              refine xtop (y := bI (allTo (brk1 (sd S) st) (k + 1))) (by show _ = bI (allTo _ k && brk1 _ _ k); rw [c13]; first | rfl | (unfold brk1; rw [decide_eq_true c22]; rfl) | (unfold brk1; rw [decide_eq_false c22, decide_eq_true c33]; rfl) | (unfold brk1; rw [decide_eq_false c22, decide_eq_false (fun z => z c33)]; rfl)) ?_
              refine xistore_n hx hb dX12_isFound_41 hl (by decide) rfl (fun ls hl => ?_)
              first | refine xiincN hx hb 1 dX12_isFound_42 hl rfl (by decide) (by decide) rfl (fun ls hl => ?_) | refine xiinc hx hb dX12_isFound_42 hl rfl rfl (by decide) rfl (fun ls hl => ?_)
              refine lv_goto (tgt := 4) hx hb dX12_isFound_45 (by decide) ?_
              exact ih4 (k + 1) _ _ _ (by omega) (by omega) hw hS hl
            · skip
              refine lv_iconst (v := nI 1) hx hb dX12_isFound_36 (by decide) ?_
              refine lv_goto (tgt := 41) hx hb dX12_isFound_37 (by decide) ?_
              refine xtop (y := bI (allTo (brk1 (sd S) st) (k + 1))) (by show _ = bI (allTo _ k && brk1 _ _ k); rw [c13]; first | rfl | (unfold brk1; rw [decide_eq_true c22]; rfl) | (unfold brk1; rw [decide_eq_false c22, decide_eq_true c33]; rfl) | (unfold brk1; rw [decide_eq_false c22, decide_eq_false (fun z => z c33)]; rfl)) ?_
              refine xistore_n hx hb dX12_isFound_41 hl (by decide) rfl (fun ls hl => ?_)
              first | refine xiincN hx hb 1 dX12_isFound_42 hl rfl (by decide) (by decide) rfl (fun ls hl => ?_) | refine xiinc hx hb dX12_isFound_42 hl rfl rfl (by decide) rfl (fun ls hl => ?_)
              refine lv_goto (tgt := 4) hx hb dX12_isFound_45 (by decide) ?_
              exact ih4 (k + 1) _ _ _ (by omega) (by omega) hw hS hl
  exact loop4 ((sd S).length + 1) 0 _ _ _ (by omega) (by omega) hw hS hl
set_option maxHeartbeats 4000000 in
set_option maxRecDepth 100000 in
theorem kX12_findNow (l : Launch) (N0 : Nat) (G : XG) (w : Wd) (M0 : Nat) (V : Nat → Value) (A : Nat → Nat → Int32) (hM : MW G w M0 V A) (S : QS) (hR : RM S V A) (hL : WB S) (hbn : ∀ d, d < (sd S).length → bd (sd S) d < 2 ^ sn S) (z : Nat) (hz2 : z < 2) : XM l yX12_findNow wsX12_findNow (rmD 2) N0 G [.ref M0, .int (nI z)] w vI (fun r w1 => findV S z = r ∧ w = w1) 0 0 := by
  refine XM.of (cc := cX12_findNow) (maxL := 5) (ret := (some .int)) (by decide) rfl (Nat.le_of_ble_eq_true rfl) ?_
  intro p e s m below meth c hx hb hr hlk hin0 hml hown hts hN hw hG hS ls hl
  have hown : s.vm.findClass RX12 = some m.cls := hown
  have hiX12 : ∀ x ∈ u_ws RX12 TX12 37, x ∈ wsX12_findNow := by decide +kernel
  have hlnk0 := hts (.fieldLink RX12 94 "LentQuillModel" "people" "I") (by decide +kernel)
  have hl : lh ls 5 [some (.ref M0), some (.int (nI z)), none, none, none] := hl
  obtain ⟨hm0, ⟨hv3, hv4, hv5, hv6, hv8, hv9, hv11, hv12, hv15, hv18, hv19, hv20, hv24, hv30, hv31, hv32, hv33, hv34, hv35⟩, ha1, ha2, ha3, ha4, ha5, ha6, ha7, ha8, ha9, ha10, ha11, ha12, ha13, ha14, ha15, ha16, ha17, ha18, ha19⟩ := id hM
  obtain ⟨ht, hn, hlm, hdn, hhn, has, hpl, hkw, hRB, hpg, hkp⟩ := id hR
  obtain ⟨hn5, hl5, hkd, hsp, hd6, hdw, hh6, hg18, hgr, hIm⟩ := id hL
  have hp2 := p2n hn5
  refine lv_iconst (v := -1) hx hb dX12_findNow_0 (by decide) ?_
  refine xistore_n hx hb dX12_findNow_1 hl (by decide) rfl (fun ls hl => ?_)
  refine lv_iconst (v := nI 0) hx hb dX12_findNow_2 (by decide) ?_
  refine xistore_n hx hb dX12_findNow_3 hl (by decide) rfl (fun ls hl => ?_)
  have loop4 : ∀ (nf : Nat) (m1 : Nat) (u : Option Value) (H : Heap) (locs : List Loc) (ls : Array Slot), 2 ^ sn S - m1 < nf → (m1 ≤ 2 ^ sn S) → PW N0 G w H → va_S (fun q => N0 ≤ q) s.heap H locs → lh ls 5 [some (.ref M0), some (.int (nI z)), some (.int (oI (fGo (brkA (sd S)) m1))), some (.int (nI m1)), u] → W p l e (rmD 2) s m ([.ref M0, .int (nI z)] : List Value).toArray below meth c H locs 0 0 (MQ below (XQ N0 G vI (fun r w1 => findV S z = r ∧ w = w1)) ([.ref M0, .int (nI z)] : List Value).toArray s 0 0 (fun q => N0 ≤ q)) (F0 m 4 ls []) := by
    intro nf
    induction nf with
    | zero => intros; omega
    | succ nf ih4 =>
      intro m1 u H locs ls hnf hm hw hS hl
      have hpm := pcN_le m1
      refine xiload_n hx hb dX12_findNow_4 hl rfl ?_
      refine lv_iconst (v := nI 1) hx hb dX12_findNow_5 (by decide) ?_
      refine xaload_n hx hb dX12_findNow_6 hl rfl ?_
      refine xgetM hx hb hts hiX12 hown hG hw (by repeat first | assumption | exact wu_eq _ _ _ | refine wu_ne (by omega) ?_) 1 (by decide) hlnk0 (by repeat first | assumption | exact vu_eq _ _ _ | refine vu_ne (by decide) ?_) dX12_findNow_7 ?_
      first | refine xshl hx hb dX12_findNow_10 (by omega) ?_ | refine lv_ishl hx hb dX12_findNow_10 ?_
      first | refine xcmp_ge (tgt := 62) hx hb dX12_findNow_11 (by decide) (by omega) (by omega) (fun c11 => ?_) (fun c11 => ?_) | refine lv_icmp_ge (tgt := 62) hx hb dX12_findNow_11 (by decide) (fun c11 => ?_) (fun c11 => ?_)
      · skip
        have hfe : fGo (brkA (sd S)) m1 = some (findB S) := by rw [show m1 = 2 ^ sn S by omega]; exact fGo_all hn5 (brk_all hbn)
        have hfb := fGo_lo hfe
        have hl : lh ls 5 [some (.ref M0), some (.int (nI z)), some (.int (nI (findB S))), some (.int (nI m1)), u] := by rw [hfe] at hl; exact hl
        refine xiload_n hx hb dX12_findNow_62 hl rfl ?_
        first | refine xifb_ne (tgt := 73) hx hb dX12_findNow_63 (by decide) (fun c63 => ?_) (fun c63 => ?_) | refine xif_ne (tgt := 73) hx hb dX12_findNow_63 (by decide) (by omega) (fun c63 => ?_) (fun c63 => ?_) | refine lv_if_ne (tgt := 73) hx hb dX12_findNow_63 (by decide) (fun c63 => ?_) (fun c63 => ?_)
        · skip
          refine xiload_n hx hb dX12_findNow_73 hl rfl ?_
          exact xiret hx hb hr hlk hw hS dX12_findNow_74 ⟨by unfold findV; first | rw [if_pos c63] | rw [if_neg c63], rfl⟩
        · skip
          refine xiload_n hx hb dX12_findNow_66 hl rfl ?_
          refine xSi ⟨hx, hb, hml, hown, hts⟩ (kX12_size l N0 G _ _ (by omega)) (va_cwS 1 hts gX12_findNow_X12_size rfl rfl rfl (by decide +kernel) ⟨Nat.le_of_ble_eq_true rfl, Nat.le_of_ble_eq_true rfl⟩) hG hN hw hS rfl hl.1 rfl (Nat.le_of_ble_eq_true rfl) dX12_findNow_67 ⟨Nat.le_of_ble_eq_true rfl, Nat.le_of_ble_eq_true rfl⟩ (fun r67 w67 H locs hp67 hw hS => ?_)
          obtain ⟨rfl, rfl⟩ := hp67
          refine lv_goto (tgt := 74) hx hb dX12_findNow_70 (by decide) ?_
          exact xiret hx hb hr hlk hw hS dX12_findNow_74 ⟨by unfold findV; first | rw [if_pos c63] | rw [if_neg c63], rfl⟩
      · skip
        rcases hq : fGo (brkA (sd S)) m1 with _ | b
        · skip
          have hl : lh ls 5 [some (.ref M0), some (.int (nI z)), some (.int (-1)), some (.int (nI m1)), u] := by rw [hq] at hl; exact hl
          refine xiload_n hx hb dX12_findNow_14 hl rfl ?_
          refine lv_iconst (v := -1) hx hb dX12_findNow_15 (by decide) ?_
          refine lv_icmp_eq (tgt := 30) hx hb dX12_findNow_16 (by decide) (fun _ => ?_) (fun c => absurd rfl c)
          refine lv_iconst (v := nI 1) hx hb dX12_findNow_30 (by decide) ?_
          refine lv_goto (tgt := 35) hx hb dX12_findNow_31 (by decide) ?_
          refine xtop (y := bI (fwr (fGo (brkA (sd S)) m1) m1)) (by rw [hq]; first | rfl | exact congrArg bI (decide_eq_true c27).symm | exact congrArg bI (decide_eq_false (Nat.not_lt.mpr c27)).symm) ?_
          refine xistore hx hb dX12_findNow_35 hl (by decide) rfl (fun ls hl => ?_)
          refine xiload hx hb dX12_findNow_37 hl rfl ?_
          first | refine xifb_eq (tgt := 54) hx hb dX12_findNow_39 (by decide) (fun c39 => ?_) (fun c39 => ?_) | refine xif_eq (tgt := 54) hx hb dX12_findNow_39 (by decide) (by omega) (fun c39 => ?_) (fun c39 => ?_) | refine lv_if_eq (tgt := 54) hx hb dX12_findNow_39 (by decide) (fun c39 => ?_) (fun c39 => ?_)
          · skip
            refine xiload_n hx hb dX12_findNow_54 hl rfl ?_
            refine xtop (y := oI (fGo (brkA (sd S)) (m1 + 1))) (by first | exact fGo_n c39 (congrArg oI hq).symm | exact fGo_o c47 (congrArg oI hq).symm | exact fGo_y c39 c47) ?_
            refine xistore_n hx hb dX12_findNow_55 hl (by decide) rfl (fun ls hl => ?_)
            first | refine xiincN hx hb 1 dX12_findNow_56 hl rfl (by decide) (by decide) rfl (fun ls hl => ?_) | refine xiinc hx hb dX12_findNow_56 hl rfl rfl (by decide) rfl (fun ls hl => ?_)
            refine lv_goto (tgt := 4) hx hb dX12_findNow_59 (by decide) ?_
            exact ih4 (m1 + 1) _ _ _ _ (by omega) (by omega) hw hS hl
          · skip
            refine xaload_n hx hb dX12_findNow_42 hl rfl ?_
            refine xiload_n hx hb dX12_findNow_43 hl rfl ?_
            refine xVi ⟨hx, hb, hml, hown, hts⟩ (kX12_isFound l N0 G _ _ V A hM S hR hL m1 (by omega)) (cwV 1 hts gX12_findNow_X12_isFound rfl rfl rfl (by decide +kernel) ⟨Nat.le_of_ble_eq_true rfl, Nat.le_of_ble_eq_true rfl⟩) hG hN hw hS (ci := 12) (by repeat first | assumption | exact wu_eq _ _ _ | refine wu_ne (by omega) ?_) rfl rfl hl.1 rfl (Nat.le_of_ble_eq_true rfl) dX12_findNow_44 ⟨Nat.le_of_ble_eq_true rfl, Nat.le_of_ble_eq_true rfl⟩ (fun r44 w44 H locs hp44 hw hS => ?_)
            obtain ⟨rfl, rfl⟩ := hp44
            first | refine xifb_eq (tgt := 54) hx hb dX12_findNow_47 (by decide) (fun c47 => ?_) (fun c47 => ?_) | refine xif_eq (tgt := 54) hx hb dX12_findNow_47 (by decide) (by omega) (fun c47 => ?_) (fun c47 => ?_) | refine lv_if_eq (tgt := 54) hx hb dX12_findNow_47 (by decide) (fun c47 => ?_) (fun c47 => ?_)
            · skip
              refine xiload_n hx hb dX12_findNow_54 hl rfl ?_
              refine xtop (y := oI (fGo (brkA (sd S)) (m1 + 1))) (by first | exact fGo_n c39 (congrArg oI hq).symm | exact fGo_o c47 (congrArg oI hq).symm | exact fGo_y c39 c47) ?_
              refine xistore_n hx hb dX12_findNow_55 hl (by decide) rfl (fun ls hl => ?_)
              first | refine xiincN hx hb 1 dX12_findNow_56 hl rfl (by decide) (by decide) rfl (fun ls hl => ?_) | refine xiinc hx hb dX12_findNow_56 hl rfl rfl (by decide) rfl (fun ls hl => ?_)
              refine lv_goto (tgt := 4) hx hb dX12_findNow_59 (by decide) ?_
              exact ih4 (m1 + 1) _ _ _ _ (by omega) (by omega) hw hS hl
            · skip
              refine xiload_n hx hb dX12_findNow_50 hl rfl ?_
              refine lv_goto (tgt := 55) hx hb dX12_findNow_51 (by decide) ?_
              refine xtop (y := oI (fGo (brkA (sd S)) (m1 + 1))) (by first | exact fGo_n c39 (congrArg oI hq).symm | exact fGo_o c47 (congrArg oI hq).symm | exact fGo_y c39 c47) ?_
              refine xistore_n hx hb dX12_findNow_55 hl (by decide) rfl (fun ls hl => ?_)
              first | refine xiincN hx hb 1 dX12_findNow_56 hl rfl (by decide) (by decide) rfl (fun ls hl => ?_) | refine xiinc hx hb dX12_findNow_56 hl rfl rfl (by decide) rfl (fun ls hl => ?_)
              refine lv_goto (tgt := 4) hx hb dX12_findNow_59 (by decide) ?_
              exact ih4 (m1 + 1) _ _ _ _ (by omega) (by omega) hw hS hl
        · skip
          have hbm := fGo_lo hq
          have hpb := pcN_le b
          have hl : lh ls 5 [some (.ref M0), some (.int (nI z)), some (.int (nI b)), some (.int (nI m1)), u] := by rw [hq] at hl; exact hl
          refine xiload_n hx hb dX12_findNow_14 hl rfl ?_
          refine lv_iconst (v := -1) hx hb dX12_findNow_15 (by decide) ?_
          refine lv_icmp_eq (tgt := 30) hx hb dX12_findNow_16 (by decide) (fun c => absurd c (nI_nm1 (by omega))) (fun _ => ?_)
          refine xiload_n hx hb dX12_findNow_19 hl rfl ?_
          refine xSi ⟨hx, hb, hml, hown, hts⟩ (kX12_size l N0 G _ m1 (by omega)) (va_cwS 1 hts gX12_findNow_X12_size rfl rfl rfl (by decide +kernel) ⟨Nat.le_of_ble_eq_true rfl, Nat.le_of_ble_eq_true rfl⟩) hG hN hw hS rfl hl.1 rfl (Nat.le_of_ble_eq_true rfl) dX12_findNow_20 ⟨Nat.le_of_ble_eq_true rfl, Nat.le_of_ble_eq_true rfl⟩ (fun r20 w20 H locs hp20 hw hS => ?_)
          obtain ⟨rfl, rfl⟩ := hp20
          refine xiload_n hx hb dX12_findNow_23 hl rfl ?_
          refine xSi ⟨hx, hb, hml, hown, hts⟩ (kX12_size l N0 G _ b (by omega)) (va_cwS 1 hts gX12_findNow_X12_size rfl rfl rfl (by decide +kernel) ⟨Nat.le_of_ble_eq_true rfl, Nat.le_of_ble_eq_true rfl⟩) hG hN hw hS rfl hl.1 rfl (Nat.le_of_ble_eq_true rfl) dX12_findNow_24 ⟨Nat.le_of_ble_eq_true rfl, Nat.le_of_ble_eq_true rfl⟩ (fun r24 w24 H locs hp24 hw hS => ?_)
          obtain ⟨rfl, rfl⟩ := hp24
          first | refine xcmp_ge (tgt := 34) hx hb dX12_findNow_27 (by decide) (by omega) (by omega) (fun c27 => ?_) (fun c27 => ?_) | refine lv_icmp_ge (tgt := 34) hx hb dX12_findNow_27 (by decide) (fun c27 => ?_) (fun c27 => ?_)
          · skip
            refine lv_iconst (v := nI 0) hx hb dX12_findNow_34 (by decide) ?_
            refine xtop (y := bI (fwr (fGo (brkA (sd S)) m1) m1)) (by rw [hq]; first | rfl | exact congrArg bI (decide_eq_true c27).symm | exact congrArg bI (decide_eq_false (Nat.not_lt.mpr c27)).symm) ?_
            refine xistore hx hb dX12_findNow_35 hl (by decide) rfl (fun ls hl => ?_)
            refine xiload hx hb dX12_findNow_37 hl rfl ?_
            first | refine xifb_eq (tgt := 54) hx hb dX12_findNow_39 (by decide) (fun c39 => ?_) (fun c39 => ?_) | refine xif_eq (tgt := 54) hx hb dX12_findNow_39 (by decide) (by omega) (fun c39 => ?_) (fun c39 => ?_) | refine lv_if_eq (tgt := 54) hx hb dX12_findNow_39 (by decide) (fun c39 => ?_) (fun c39 => ?_)
            · skip
              refine xiload_n hx hb dX12_findNow_54 hl rfl ?_
              refine xtop (y := oI (fGo (brkA (sd S)) (m1 + 1))) (by first | exact fGo_n c39 (congrArg oI hq).symm | exact fGo_o c47 (congrArg oI hq).symm | exact fGo_y c39 c47) ?_
              refine xistore_n hx hb dX12_findNow_55 hl (by decide) rfl (fun ls hl => ?_)
              first | refine xiincN hx hb 1 dX12_findNow_56 hl rfl (by decide) (by decide) rfl (fun ls hl => ?_) | refine xiinc hx hb dX12_findNow_56 hl rfl rfl (by decide) rfl (fun ls hl => ?_)
              refine lv_goto (tgt := 4) hx hb dX12_findNow_59 (by decide) ?_
              exact ih4 (m1 + 1) _ _ _ _ (by omega) (by omega) hw hS hl
            · skip
              refine xaload_n hx hb dX12_findNow_42 hl rfl ?_
              refine xiload_n hx hb dX12_findNow_43 hl rfl ?_
              refine xVi ⟨hx, hb, hml, hown, hts⟩ (kX12_isFound l N0 G _ _ V A hM S hR hL m1 (by omega)) (cwV 1 hts gX12_findNow_X12_isFound rfl rfl rfl (by decide +kernel) ⟨Nat.le_of_ble_eq_true rfl, Nat.le_of_ble_eq_true rfl⟩) hG hN hw hS (ci := 12) (by repeat first | assumption | exact wu_eq _ _ _ | refine wu_ne (by omega) ?_) rfl rfl hl.1 rfl (Nat.le_of_ble_eq_true rfl) dX12_findNow_44 ⟨Nat.le_of_ble_eq_true rfl, Nat.le_of_ble_eq_true rfl⟩ (fun r44 w44 H locs hp44 hw hS => ?_)
              obtain ⟨rfl, rfl⟩ := hp44
              first | refine xifb_eq (tgt := 54) hx hb dX12_findNow_47 (by decide) (fun c47 => ?_) (fun c47 => ?_) | refine xif_eq (tgt := 54) hx hb dX12_findNow_47 (by decide) (by omega) (fun c47 => ?_) (fun c47 => ?_) | refine lv_if_eq (tgt := 54) hx hb dX12_findNow_47 (by decide) (fun c47 => ?_) (fun c47 => ?_)
              · skip
                refine xiload_n hx hb dX12_findNow_54 hl rfl ?_
                refine xtop (y := oI (fGo (brkA (sd S)) (m1 + 1))) (by first | exact fGo_n c39 (congrArg oI hq).symm | exact fGo_o c47 (congrArg oI hq).symm | exact fGo_y c39 c47) ?_
                refine xistore_n hx hb dX12_findNow_55 hl (by decide) rfl (fun ls hl => ?_)
                first | refine xiincN hx hb 1 dX12_findNow_56 hl rfl (by decide) (by decide) rfl (fun ls hl => ?_) | refine xiinc hx hb dX12_findNow_56 hl rfl rfl (by decide) rfl (fun ls hl => ?_)
                refine lv_goto (tgt := 4) hx hb dX12_findNow_59 (by decide) ?_
                exact ih4 (m1 + 1) _ _ _ _ (by omega) (by omega) hw hS hl
              · skip
                refine xiload_n hx hb dX12_findNow_50 hl rfl ?_
                refine lv_goto (tgt := 55) hx hb dX12_findNow_51 (by decide) ?_
                refine xtop (y := oI (fGo (brkA (sd S)) (m1 + 1))) (by first | exact fGo_n c39 (congrArg oI hq).symm | exact fGo_o c47 (congrArg oI hq).symm | exact fGo_y c39 c47) ?_
                refine xistore_n hx hb dX12_findNow_55 hl (by decide) rfl (fun ls hl => ?_)
                first | refine xiincN hx hb 1 dX12_findNow_56 hl rfl (by decide) (by decide) rfl (fun ls hl => ?_) | refine xiinc hx hb dX12_findNow_56 hl rfl rfl (by decide) rfl (fun ls hl => ?_)
                refine lv_goto (tgt := 4) hx hb dX12_findNow_59 (by decide) ?_
                exact ih4 (m1 + 1) _ _ _ _ (by omega) (by omega) hw hS hl
          · skip
            refine lv_iconst (v := nI 1) hx hb dX12_findNow_30 (by decide) ?_
            refine lv_goto (tgt := 35) hx hb dX12_findNow_31 (by decide) ?_
            refine xtop (y := bI (fwr (fGo (brkA (sd S)) m1) m1)) (by rw [hq]; first | rfl | exact congrArg bI (decide_eq_true c27).symm | exact congrArg bI (decide_eq_false (Nat.not_lt.mpr c27)).symm) ?_
            refine xistore hx hb dX12_findNow_35 hl (by decide) rfl (fun ls hl => ?_)
            refine xiload hx hb dX12_findNow_37 hl rfl ?_
            first | refine xifb_eq (tgt := 54) hx hb dX12_findNow_39 (by decide) (fun c39 => ?_) (fun c39 => ?_) | refine xif_eq (tgt := 54) hx hb dX12_findNow_39 (by decide) (by omega) (fun c39 => ?_) (fun c39 => ?_) | refine lv_if_eq (tgt := 54) hx hb dX12_findNow_39 (by decide) (fun c39 => ?_) (fun c39 => ?_)
            · skip
              refine xiload_n hx hb dX12_findNow_54 hl rfl ?_
              refine xtop (y := oI (fGo (brkA (sd S)) (m1 + 1))) (by first | exact fGo_n c39 (congrArg oI hq).symm | exact fGo_o c47 (congrArg oI hq).symm | exact fGo_y c39 c47) ?_
              refine xistore_n hx hb dX12_findNow_55 hl (by decide) rfl (fun ls hl => ?_)
              first | refine xiincN hx hb 1 dX12_findNow_56 hl rfl (by decide) (by decide) rfl (fun ls hl => ?_) | refine xiinc hx hb dX12_findNow_56 hl rfl rfl (by decide) rfl (fun ls hl => ?_)
              refine lv_goto (tgt := 4) hx hb dX12_findNow_59 (by decide) ?_
              exact ih4 (m1 + 1) _ _ _ _ (by omega) (by omega) hw hS hl
            · skip
              refine xaload_n hx hb dX12_findNow_42 hl rfl ?_
              refine xiload_n hx hb dX12_findNow_43 hl rfl ?_
              refine xVi ⟨hx, hb, hml, hown, hts⟩ (kX12_isFound l N0 G _ _ V A hM S hR hL m1 (by omega)) (cwV 1 hts gX12_findNow_X12_isFound rfl rfl rfl (by decide +kernel) ⟨Nat.le_of_ble_eq_true rfl, Nat.le_of_ble_eq_true rfl⟩) hG hN hw hS (ci := 12) (by repeat first | assumption | exact wu_eq _ _ _ | refine wu_ne (by omega) ?_) rfl rfl hl.1 rfl (Nat.le_of_ble_eq_true rfl) dX12_findNow_44 ⟨Nat.le_of_ble_eq_true rfl, Nat.le_of_ble_eq_true rfl⟩ (fun r44 w44 H locs hp44 hw hS => ?_)
              obtain ⟨rfl, rfl⟩ := hp44
              first | refine xifb_eq (tgt := 54) hx hb dX12_findNow_47 (by decide) (fun c47 => ?_) (fun c47 => ?_) | refine xif_eq (tgt := 54) hx hb dX12_findNow_47 (by decide) (by omega) (fun c47 => ?_) (fun c47 => ?_) | refine lv_if_eq (tgt := 54) hx hb dX12_findNow_47 (by decide) (fun c47 => ?_) (fun c47 => ?_)
              · skip
                refine xiload_n hx hb dX12_findNow_54 hl rfl ?_
                refine xtop (y := oI (fGo (brkA (sd S)) (m1 + 1))) (by first | exact fGo_n c39 (congrArg oI hq).symm | exact fGo_o c47 (congrArg oI hq).symm | exact fGo_y c39 c47) ?_
                refine xistore_n hx hb dX12_findNow_55 hl (by decide) rfl (fun ls hl => ?_)
                first | refine xiincN hx hb 1 dX12_findNow_56 hl rfl (by decide) (by decide) rfl (fun ls hl => ?_) | refine xiinc hx hb dX12_findNow_56 hl rfl rfl (by decide) rfl (fun ls hl => ?_)
                refine lv_goto (tgt := 4) hx hb dX12_findNow_59 (by decide) ?_
                exact ih4 (m1 + 1) _ _ _ _ (by omega) (by omega) hw hS hl
              · skip
                refine xiload_n hx hb dX12_findNow_50 hl rfl ?_
                refine lv_goto (tgt := 55) hx hb dX12_findNow_51 (by decide) ?_
                refine xtop (y := oI (fGo (brkA (sd S)) (m1 + 1))) (by first | exact fGo_n c39 (congrArg oI hq).symm | exact fGo_o c47 (congrArg oI hq).symm | exact fGo_y c39 c47) ?_
                refine xistore_n hx hb dX12_findNow_55 hl (by decide) rfl (fun ls hl => ?_)
                first | refine xiincN hx hb 1 dX12_findNow_56 hl rfl (by decide) (by decide) rfl (fun ls hl => ?_) | refine xiinc hx hb dX12_findNow_56 hl rfl rfl (by decide) rfl (fun ls hl => ?_)
                refine lv_goto (tgt := 4) hx hb dX12_findNow_59 (by decide) ?_
                exact ih4 (m1 + 1) _ _ _ _ (by omega) (by omega) hw hS hl
  exact loop4 (2 ^ sn S + 1) 0 none _ _ _ (by omega) (by omega) hw hS hl
set_option maxHeartbeats 4000000 in
set_option maxRecDepth 100000 in
theorem kX12_find (l : Launch) (N0 : Nat) (G : XG) (w : Wd) (M0 : Nat) (V : Nat → Value) (A : Nat → Nat → Int32) (hM : MW G w M0 V A) (S : QS) (hR : RM S V A) (hL : WB S) (hbn : ∀ d, d < (sd S).length → bd (sd S) d < 2 ^ sn S) (x : Int32) : XM l yX12_find wsX12_find (rmD 3) N0 G [.ref M0, .int x] w vI (fun r w1 => v_find S x = r ∧ w = w1) 0 0 := by
  refine XM.of (cc := cX12_find) (maxL := 2) (ret := (some .int)) (by decide) rfl (Nat.le_of_ble_eq_true rfl) ?_
  intro p e s m below meth c hx hb hr hlk hin0 hml hown hts hN hw hG hS ls hl
  have hown : s.vm.findClass RX12 = some m.cls := hown
  have hiX12 : ∀ x ∈ u_ws RX12 TX12 37, x ∈ wsX12_find := by decide +kernel
  have hlnk0 := hts (.fieldLink RX12 94 "LentQuillModel" "people" "I") (by decide +kernel)
  have hl : lh ls 2 [some (.ref M0), some (.int x)] := hl
  obtain ⟨hm0, ⟨hv3, hv4, hv5, hv6, hv8, hv9, hv11, hv12, hv15, hv18, hv19, hv20, hv24, hv30, hv31, hv32, hv33, hv34, hv35⟩, ha1, ha2, ha3, ha4, ha5, ha6, ha7, ha8, ha9, ha10, ha11, ha12, ha13, ha14, ha15, ha16, ha17, ha18, ha19⟩ := id hM
  obtain ⟨ht, hn, hlm, hdn, hhn, has, hpl, hkw, hRB, hpg, hkp⟩ := id hR
  obtain ⟨hn5, hl5, hkd, hsp, hd6, hdw, hh6, hg18, hgr, hIm⟩ := id hL
  rcases inR_or x 2 with ⟨k, hk, hk31, rfl⟩ | hx1
  · skip
    refine xiload_n hx hb dX12_find_0 hl rfl ?_
    refine lv_iconst (v := nI 0) hx hb dX12_find_1 (by decide) ?_
    refine lv_iconst (v := nI 1) hx hb dX12_find_2 (by decide) ?_
    refine xSi ⟨hx, hb, hml, hown, hts⟩ (kX12_within l N0 G _ _ _ _) (va_cwS 3 hts gX12_find_X12_within rfl rfl rfl (by decide +kernel) ⟨Nat.le_of_ble_eq_true rfl, Nat.le_of_ble_eq_true rfl⟩) hG hN hw hS rfl hl.1 rfl (Nat.le_of_ble_eq_true rfl) dX12_find_3 ⟨Nat.le_of_ble_eq_true rfl, Nat.le_of_ble_eq_true rfl⟩ (fun r3 w3 H locs hp3 hw hS => ?_)
    obtain ⟨rfl, rfl⟩ := hp3
    refine xtop (y := bI true) (congrArg bI (wiB_y (by omega) (by omega) (by omega))) ?_
    first | refine xifb_ne (tgt := 12) hx hb dX12_find_6 (by decide) (fun c6 => ?_) (fun c6 => ?_) | refine xif_ne (tgt := 12) hx hb dX12_find_6 (by decide) (by omega) (fun c6 => ?_) (fun c6 => ?_) | refine lv_if_ne (tgt := 12) hx hb dX12_find_6 (by decide) (fun c6 => ?_) (fun c6 => ?_)
    · skip
      refine xaload_n hx hb dX12_find_12 hl rfl ?_
      refine xgetM hx hb hts hiX12 hown hG hw (by repeat first | assumption | exact wu_eq _ _ _ | refine wu_ne (by omega) ?_) 1 (by decide) hlnk0 (by repeat first | assumption | exact vu_eq _ _ _ | refine vu_ne (by decide) ?_) dX12_find_13 ?_
      first | refine xifb_ne (tgt := 24) hx hb dX12_find_16 (by decide) (fun c16 => ?_) (fun c16 => ?_) | refine xif_ne (tgt := 24) hx hb dX12_find_16 (by decide) (by omega) (fun c16 => ?_) (fun c16 => ?_) | refine lv_if_ne (tgt := 24) hx hb dX12_find_16 (by decide) (fun c16 => ?_) (fun c16 => ?_)
      · skip
        refine xaload_n hx hb dX12_find_24 hl rfl ?_
        refine xiload_n hx hb dX12_find_25 hl rfl ?_
        refine xVi ⟨hx, hb, hml, hown, hts⟩ (kX12_findNow l N0 G _ _ V A hM S hR hL hbn k hk) (cwV 1 hts gX12_find_X12_findNow rfl rfl rfl (by decide +kernel) ⟨Nat.le_of_ble_eq_true rfl, Nat.le_of_ble_eq_true rfl⟩) hG hN hw hS (ci := 12) (by repeat first | assumption | exact wu_eq _ _ _ | refine wu_ne (by omega) ?_) rfl rfl hl.1 rfl (Nat.le_of_ble_eq_true rfl) dX12_find_26 ⟨Nat.le_of_ble_eq_true rfl, Nat.le_of_ble_eq_true rfl⟩ (fun r26 w26 H locs hp26 hw hS => ?_)
        obtain ⟨rfl, rfl⟩ := hp26
        exact xiret hx hb hr hlk hw hS dX12_find_29 ⟨by rw [v_find, onR_in hk hk31]; first | exact if_pos c16 | exact if_neg c16, rfl⟩
      · skip
        refine lv_bipush (v := -103) hx hb dX12_find_19 (by decide) ?_
        refine lv_goto (tgt := 29) hx hb dX12_find_21 (by decide) ?_
        exact xiret hx hb hr hlk hw hS dX12_find_29 ⟨by rw [v_find, onR_in hk hk31]; first | exact if_pos c16 | exact if_neg c16, rfl⟩
    · skip
      exfalso
      cases c6
  · skip
    refine xiload_n hx hb dX12_find_0 hl rfl ?_
    refine lv_iconst (v := nI 0) hx hb dX12_find_1 (by decide) ?_
    refine lv_iconst (v := nI 1) hx hb dX12_find_2 (by decide) ?_
    refine xSi ⟨hx, hb, hml, hown, hts⟩ (kX12_within l N0 G _ _ _ _) (va_cwS 3 hts gX12_find_X12_within rfl rfl rfl (by decide +kernel) ⟨Nat.le_of_ble_eq_true rfl, Nat.le_of_ble_eq_true rfl⟩) hG hN hw hS rfl hl.1 rfl (Nat.le_of_ble_eq_true rfl) dX12_find_3 ⟨Nat.le_of_ble_eq_true rfl, Nat.le_of_ble_eq_true rfl⟩ (fun r3 w3 H locs hp3 hw hS => ?_)
    obtain ⟨rfl, rfl⟩ := hp3
    refine xtop (y := bI false) (congrArg bI (wiB_n hx1 (by omega))) ?_
    first | refine xifb_ne (tgt := 12) hx hb dX12_find_6 (by decide) (fun c6 => ?_) (fun c6 => ?_) | refine xif_ne (tgt := 12) hx hb dX12_find_6 (by decide) (by omega) (fun c6 => ?_) (fun c6 => ?_) | refine lv_if_ne (tgt := 12) hx hb dX12_find_6 (by decide) (fun c6 => ?_) (fun c6 => ?_)
    · skip
      exfalso
      cases c6
    · skip
      refine lv_bipush (v := -102) hx hb dX12_find_9 (by decide) ?_
      exact xiret hx hb hr hlk hw hS dX12_find_11 ⟨by rw [v_find, onR_out hx1], rfl⟩
set_option maxHeartbeats 4000000 in
set_option maxRecDepth 100000 in
theorem kX12_owesNow (l : Launch) (N0 : Nat) (G : XG) (w : Wd) (M0 : Nat) (V : Nat → Value) (A : Nat → Nat → Int32) (hM : MW G w M0 V A) (S : QS) (hR : RM S V A) (hL : WB S) (p1 z : Nat) (hp1 : p1 < sn S) (hz2 : z < 2) : XM l yX12_owesNow wsX12_owesNow (rmD 2) N0 G [.ref M0, .int (nI p1), .int (nI z)] w vI (fun r w1 => oweV S p1 z = r ∧ w = w1) 0 0 := by
  refine XM.of (cc := cX12_owesNow) (maxL := 7) (ret := (some .int)) (by decide) rfl (Nat.le_of_ble_eq_true rfl) ?_
  intro p e s m below meth c hx hb hr hlk hin0 hml hown hts hN hw hG hS ls hl
  have hown : s.vm.findClass RX12 = some m.cls := hown
  have hiX12 : ∀ x ∈ u_ws RX12 TX12 37, x ∈ wsX12_owesNow := by decide +kernel
  have hlnk0 := hts (.fieldLink RX12 103 "LentQuillModel" "deeds" "I") (by decide +kernel)
  have hlnk1 := hts (.fieldLink RX12 25 "LentQuillModel" "boundOf" "[I") (by decide +kernel)
  have hlnk2 := hts (.fieldLink RX12 22 "LentQuillModel" "debtOf" "[I") (by decide +kernel)
  have hl : lh ls 7 [some (.ref M0), some (.int (nI p1)), some (.int (nI z)), none, none, none, none] := hl
  obtain ⟨hm0, ⟨hv3, hv4, hv5, hv6, hv8, hv9, hv11, hv12, hv15, hv18, hv19, hv20, hv24, hv30, hv31, hv32, hv33, hv34, hv35⟩, ha1, ha2, ha3, ha4, ha5, ha6, ha7, ha8, ha9, ha10, ha11, ha12, ha13, ha14, ha15, ha16, ha17, ha18, ha19⟩ := id hM
  obtain ⟨ht, hn, hlm, hdn, hhn, has, hpl, hkw, hRB, hpg, hkp⟩ := id hR
  obtain ⟨hn5, hl5, hkd, hsp, hd6, hdw, hh6, hg18, hgr, hIm⟩ := id hL
  have how := owe_lt (q := p1) hdw hd6
  have hg0 : 0 < Nat.gcd (oweN (sd S) p1 (sd S).length) 60 := Nat.gcd_pos_of_pos_right _ (by omega)
  have hg60 : Nat.gcd (oweN (sd S) p1 (sd S).length) 60 ≤ 60 := Nat.le_of_dvd (by omega) (Nat.gcd_dvd_right _ _)
  refine lv_iconst (v := nI 0) hx hb dX12_owesNow_0 (by decide) ?_
  refine xistore_n hx hb dX12_owesNow_1 hl (by decide) rfl (fun ls hl => ?_)
  refine lv_iconst (v := nI 0) hx hb dX12_owesNow_2 (by decide) ?_
  refine xistore hx hb dX12_owesNow_3 hl (by decide) rfl (fun ls hl => ?_)
  have loop5 : ∀ (nf : Nat) (k : Nat) (H : Heap) (locs : List Loc) (ls : Array Slot), (sd S).length - k < nf → (k ≤ (sd S).length) → PW N0 G w H → va_S (fun q => N0 ≤ q) s.heap H locs → lh ls 7 [some (.ref M0), some (.int (nI p1)), some (.int (nI z)), some (.int (nI (oweN (sd S) p1 k))), some (.int (nI k)), none, none] → W p l e (rmD 2) s m ([.ref M0, .int (nI p1), .int (nI z)] : List Value).toArray below meth c H locs 0 0 (MQ below (XQ N0 G vI (fun r w1 => oweV S p1 z = r ∧ w = w1)) ([.ref M0, .int (nI p1), .int (nI z)] : List Value).toArray s 0 0 (fun q => N0 ≤ q)) (F0 m 5 ls []) := by
    intro nf
    induction nf with
    | zero => intros; omega
    | succ nf ih5 =>
      intro k H locs ls hnf hk hw hS hl
      refine xiload hx hb dX12_owesNow_5 hl rfl ?_
      refine xaload_n hx hb dX12_owesNow_7 hl rfl ?_
      refine xgetM hx hb hts hiX12 hown hG hw (by repeat first | assumption | exact wu_eq _ _ _ | refine wu_ne (by omega) ?_) 7 (by decide) hlnk0 (by repeat first | assumption | exact vu_eq _ _ _ | refine vu_ne (by decide) ?_) dX12_owesNow_8 ?_
      first | refine xcmp_ge (tgt := 62) hx hb dX12_owesNow_11 (by decide) (by omega) (by omega) (fun c11 => ?_) (fun c11 => ?_) | refine lv_icmp_ge (tgt := 62) hx hb dX12_owesNow_11 (by decide) (fun c11 => ?_) (fun c11 => ?_)
      · skip
        refine xiload_n hx hb dX12_owesNow_62 hl rfl ?_
        refine xistore hx hb dX12_owesNow_63 hl (by decide) rfl (fun ls hl => ?_)
        refine lv_bipush (v := nI 60) hx hb dX12_owesNow_65 (by decide) ?_
        refine xistore hx hb dX12_owesNow_67 hl (by decide) rfl (fun ls hl => ?_)
        have loop69 : ∀ (nf : Nat) (a b : Nat) (u : Option Value) (H : Heap) (locs : List Loc) (ls : Array Slot), b < nf → (a < 100000) → (b ≤ 60) → (Nat.gcd a b = Nat.gcd (oweN (sd S) p1 (sd S).length) 60) → PW N0 G w H → va_S (fun q => N0 ≤ q) s.heap H locs → lh ls 7 [some (.ref M0), some (.int (nI p1)), some (.int (nI z)), some (.int (nI (oweN (sd S) p1 (sd S).length))), some (.int (nI a)), some (.int (nI b)), u] → W p l e (rmD 2) s m ([.ref M0, .int (nI p1), .int (nI z)] : List Value).toArray below meth c H locs 0 0 (MQ below (XQ N0 G vI (fun r w1 => oweV S p1 z = r ∧ w = w1)) ([.ref M0, .int (nI p1), .int (nI z)] : List Value).toArray s 0 0 (fun q => N0 ≤ q)) (F0 m 69 ls []) := by
          intro nf
          induction nf with
          | zero => intros; omega
          | succ nf ih69 =>
            intro a b u H locs ls hnf ha hb60 hgg hw hS hl
            refine xiload hx hb dX12_owesNow_69 hl rfl ?_
            first | refine xifb_eq (tgt := 92) hx hb dX12_owesNow_71 (by decide) (fun c71 => ?_) (fun c71 => ?_) | refine xif_eq (tgt := 92) hx hb dX12_owesNow_71 (by decide) (by omega) (fun c71 => ?_) (fun c71 => ?_) | refine lv_if_eq (tgt := 92) hx hb dX12_owesNow_71 (by decide) (fun c71 => ?_) (fun c71 => ?_)
            · skip
              have hab : a = Nat.gcd (oweN (sd S) p1 (sd S).length) 60 := by rw [← hgg, c71, Nat.gcd_zero_right]
              refine xiload_n hx hb dX12_owesNow_92 hl rfl ?_
              first | refine xifb_ne (tgt := 103) hx hb dX12_owesNow_93 (by decide) (fun c93 => ?_) (fun c93 => ?_) | refine xif_ne (tgt := 103) hx hb dX12_owesNow_93 (by decide) (by omega) (fun c93 => ?_) (fun c93 => ?_) | refine lv_if_ne (tgt := 103) hx hb dX12_owesNow_93 (by decide) (fun c93 => ?_) (fun c93 => ?_)
              · skip
                refine lv_bipush (v := nI 60) hx hb dX12_owesNow_103 (by decide) ?_
                refine xiload hx hb dX12_owesNow_105 hl rfl ?_
                refine xdiv hx hb dX12_owesNow_107 (by omega) (by omega) (by omega) ?_
                exact xiret hx hb hr hlk hw hS dX12_owesNow_108 ⟨by unfold oweV; rw [← hab]; first | rw [if_pos c93] | rw [if_neg c93], rfl⟩
              · skip
                refine xiload_n hx hb dX12_owesNow_96 hl rfl ?_
                refine xiload hx hb dX12_owesNow_97 hl rfl ?_
                refine xdiv hx hb dX12_owesNow_99 (by omega) (by omega) (by omega) ?_
                refine lv_goto (tgt := 108) hx hb dX12_owesNow_100 (by decide) ?_
                exact xiret hx hb hr hlk hw hS dX12_owesNow_108 ⟨by unfold oweV; rw [← hab]; first | rw [if_pos c93] | rw [if_neg c93], rfl⟩
            · skip
              refine xiload hx hb dX12_owesNow_74 hl rfl ?_
              refine xiload hx hb dX12_owesNow_76 hl rfl ?_
              refine xrem hx hb dX12_owesNow_78 (by omega) (by omega) (by omega) ?_
              refine xistore hx hb dX12_owesNow_79 hl (by decide) rfl (fun ls hl => ?_)
              refine xiload hx hb dX12_owesNow_81 hl rfl ?_
              refine xistore hx hb dX12_owesNow_83 hl (by decide) rfl (fun ls hl => ?_)
              refine xiload hx hb dX12_owesNow_85 hl rfl ?_
              refine xistore hx hb dX12_owesNow_87 hl (by decide) rfl (fun ls hl => ?_)
              refine lv_goto (tgt := 69) hx hb dX12_owesNow_89 (by decide) ?_
              have hml2 := Nat.mod_lt a (show 0 < b by omega)
              exact ih69 b (a % b) _ _ _ _ (by omega) (by omega) (by omega) ((eu a b).trans hgg) hw hS hl
        have hke : k = (sd S).length := by omega
        rw [hke] at hl
        exact loop69 61 _ 60 none _ _ _ (by omega) how (by omega) rfl hw hS hl
      · skip
        have hb5 : A 5 k = nI (dbt (sd S) k) := (hRB.2.1 k (by show k < (sd S).length; omega)).1
        have hb6 : A 6 k = nI (bd (sd S) k) := (hRB.2.1 k (by show k < (sd S).length; omega)).2
        have hb32 := (hdw k (by omega)).2
        have hb9 := (hdw k (by omega)).1
        have hp5 := pcN_le (bd (sd S) k)
        refine xiload_n hx hb dX12_owesNow_14 hl rfl ?_
        refine xaload_n hx hb dX12_owesNow_15 hl rfl ?_
        refine xgetM hx hb hts hiX12 hown hG hw (by repeat first | assumption | exact wu_eq _ _ _ | refine wu_ne (by omega) ?_) 9 (by decide) hlnk1 (by repeat first | assumption | exact vu_eq _ _ _ | refine vu_ne (by decide) ?_) dX12_owesNow_16 ?_
        refine xiload hx hb dX12_owesNow_19 hl rfl ?_
        refine xiald hx hb hG hw (by repeat first | assumption | exact wu_eq _ _ _ | refine wu_ne (by omega) ?_) (by omega) (by omega) dX12_owesNow_21 ?_
        refine xtop hb6 ?_
        refine xiload_n hx hb dX12_owesNow_22 hl rfl ?_
        refine xSi ⟨hx, hb, hml, hown, hts⟩ (kX12_isIn l N0 G _ _ p1 hb32 (by omega)) (va_cwS 2 hts gX12_owesNow_X12_isIn rfl rfl rfl (by decide +kernel) ⟨Nat.le_of_ble_eq_true rfl, Nat.le_of_ble_eq_true rfl⟩) hG hN hw hS rfl hl.1 rfl (Nat.le_of_ble_eq_true rfl) dX12_owesNow_23 ⟨Nat.le_of_ble_eq_true rfl, Nat.le_of_ble_eq_true rfl⟩ (fun r23 w23 H locs hp23 hw hS => ?_)
        obtain ⟨rfl, rfl⟩ := hp23
        first | refine xifb_eq (tgt := 53) hx hb dX12_owesNow_26 (by decide) (fun c26 => ?_) (fun c26 => ?_) | refine xif_eq (tgt := 53) hx hb dX12_owesNow_26 (by decide) (by omega) (fun c26 => ?_) (fun c26 => ?_) | refine lv_if_eq (tgt := 53) hx hb dX12_owesNow_26 (by decide) (fun c26 => ?_) (fun c26 => ?_)
        · skip
          refine lv_iconst (v := nI 0) hx hb dX12_owesNow_53 (by decide) ?_
          refine xtop (y := nI (if (bd (sd S) k).testBit p1 = true then 60 * dbt (sd S) k / pcN (bd (sd S) k) else 0)) (by first | rw [if_pos c26] | rw [if_neg (by rw [c26]; decide)]) ?_
          first | refine xadd hx hb dX12_owesNow_54 ?_ | refine lv_iadd hx hb dX12_owesNow_54 ?_
          refine xistore_n hx hb dX12_owesNow_55 hl (by decide) rfl (fun ls hl => ?_)
          first | refine xiincN hx hb 1 dX12_owesNow_56 hl rfl (by decide) (by decide) rfl (fun ls hl => ?_) | refine xiinc hx hb dX12_owesNow_56 hl rfl rfl (by decide) rfl (fun ls hl => ?_)
          refine lv_goto (tgt := 5) hx hb dX12_owesNow_59 (by decide) ?_
          exact ih5 (k + 1) _ _ _ (by omega) (by omega) hw hS hl
        · skip
          have hpp := pcN_pos _ hb32 (tb_ne c26)
          refine lv_bipush (v := nI 60) hx hb dX12_owesNow_29 (by decide) ?_
          refine xaload_n hx hb dX12_owesNow_31 hl rfl ?_
          refine xgetM hx hb hts hiX12 hown hG hw (by repeat first | assumption | exact wu_eq _ _ _ | refine wu_ne (by omega) ?_) 8 (by decide) hlnk2 (by repeat first | assumption | exact vu_eq _ _ _ | refine vu_ne (by decide) ?_) dX12_owesNow_32 ?_
          refine xiload hx hb dX12_owesNow_35 hl rfl ?_
          refine xiald hx hb hG hw (by repeat first | assumption | exact wu_eq _ _ _ | refine wu_ne (by omega) ?_) (by omega) (by omega) dX12_owesNow_37 ?_
          refine xtop hb5 ?_
          first | refine xmul hx hb dX12_owesNow_38 ?_ | refine lv_imul hx hb dX12_owesNow_38 ?_
          refine xaload_n hx hb dX12_owesNow_39 hl rfl ?_
          refine xgetM hx hb hts hiX12 hown hG hw (by repeat first | assumption | exact wu_eq _ _ _ | refine wu_ne (by omega) ?_) 9 (by decide) hlnk1 (by repeat first | assumption | exact vu_eq _ _ _ | refine vu_ne (by decide) ?_) dX12_owesNow_40 ?_
          refine xiload hx hb dX12_owesNow_43 hl rfl ?_
          refine xiald hx hb hG hw (by repeat first | assumption | exact wu_eq _ _ _ | refine wu_ne (by omega) ?_) (by omega) (by omega) dX12_owesNow_45 ?_
          refine xtop hb6 ?_
          refine xSi ⟨hx, hb, hml, hown, hts⟩ (kX12_size l N0 G _ _ hb32) (va_cwS 1 hts gX12_owesNow_X12_size rfl rfl rfl (by decide +kernel) ⟨Nat.le_of_ble_eq_true rfl, Nat.le_of_ble_eq_true rfl⟩) hG hN hw hS rfl hl.1 rfl (Nat.le_of_ble_eq_true rfl) dX12_owesNow_46 ⟨Nat.le_of_ble_eq_true rfl, Nat.le_of_ble_eq_true rfl⟩ (fun r46 w46 H locs hp46 hw hS => ?_)
          obtain ⟨rfl, rfl⟩ := hp46
          refine xdiv hx hb dX12_owesNow_49 (by omega) (by omega) (by omega) ?_
          refine lv_goto (tgt := 54) hx hb dX12_owesNow_50 (by decide) ?_
          refine xtop (y := nI (if (bd (sd S) k).testBit p1 = true then 60 * dbt (sd S) k / pcN (bd (sd S) k) else 0)) (by first | rw [if_pos c26] | rw [if_neg (by rw [c26]; decide)]) ?_
          first | refine xadd hx hb dX12_owesNow_54 ?_ | refine lv_iadd hx hb dX12_owesNow_54 ?_
          refine xistore_n hx hb dX12_owesNow_55 hl (by decide) rfl (fun ls hl => ?_)
          first | refine xiincN hx hb 1 dX12_owesNow_56 hl rfl (by decide) (by decide) rfl (fun ls hl => ?_) | refine xiinc hx hb dX12_owesNow_56 hl rfl rfl (by decide) rfl (fun ls hl => ?_)
          refine lv_goto (tgt := 5) hx hb dX12_owesNow_59 (by decide) ?_
          exact ih5 (k + 1) _ _ _ (by omega) (by omega) hw hS hl
  exact loop5 ((sd S).length + 1) 0 _ _ _ (by omega) (by omega) hw hS hl
set_option maxHeartbeats 4000000 in
set_option maxRecDepth 100000 in
theorem kX12_owes (l : Launch) (N0 : Nat) (G : XG) (w : Wd) (M0 : Nat) (V : Nat → Value) (A : Nat → Nat → Int32) (hM : MW G w M0 V A) (S : QS) (hR : RM S V A) (hL : WB S) (x y : Int32) : XM l yX12_owes wsX12_owes (rmD 4) N0 G [.ref M0, .int x, .int y] w vI (fun r w1 => v_owes S x y = r ∧ w = w1) 0 0 := by
  refine XM.of (cc := cX12_owes) (maxL := 3) (ret := (some .int)) (by decide) rfl (Nat.le_of_ble_eq_true rfl) ?_
  intro p e s m below meth c hx hb hr hlk hin0 hml hown hts hN hw hG hS ls hl
  have hown : s.vm.findClass RX12 = some m.cls := hown
  have hl : lh ls 3 [some (.ref M0), some (.int x), some (.int y)] := hl
  obtain ⟨hm0, ⟨hv3, hv4, hv5, hv6, hv8, hv9, hv11, hv12, hv15, hv18, hv19, hv20, hv24, hv30, hv31, hv32, hv33, hv34, hv35⟩, ha1, ha2, ha3, ha4, ha5, ha6, ha7, ha8, ha9, ha10, ha11, ha12, ha13, ha14, ha15, ha16, ha17, ha18, ha19⟩ := id hM
  obtain ⟨ht, hn, hlm, hdn, hhn, has, hpl, hkw, hRB, hpg, hkp⟩ := id hR
  obtain ⟨hn5, hl5, hkd, hsp, hd6, hdw, hh6, hg18, hgr, hIm⟩ := id hL
  rcases inR_or x (sn S) with ⟨i, hi, hi31, rfl⟩ | hx1 <;> rcases inR_or y 2 with ⟨k, hk, hk31, rfl⟩ | hy1
  · skip
    refine xaload_n hx hb dX12_owes_0 hl rfl ?_
    refine xiload_n hx hb dX12_owes_1 hl rfl ?_
    refine xVi ⟨hx, hb, hml, hown, hts⟩ (kX12_isOne l N0 G _ _ V A hM S hR hL _) (cwV 1 hts gX12_owes_X12_isOne rfl rfl rfl (by decide +kernel) ⟨Nat.le_of_ble_eq_true rfl, Nat.le_of_ble_eq_true rfl⟩) hG hN hw hS (ci := 12) (by repeat first | assumption | exact wu_eq _ _ _ | refine wu_ne (by omega) ?_) rfl rfl hl.1 rfl (Nat.le_of_ble_eq_true rfl) dX12_owes_2 ⟨Nat.le_of_ble_eq_true rfl, Nat.le_of_ble_eq_true rfl⟩ (fun r2 w2 H locs hp2 hw hS => ?_)
    obtain ⟨rfl, rfl⟩ := hp2
    refine xtop (y := bI true) (congrArg bI (decide_eq_true (inR_nI hi (by omega)))) ?_
    first | refine xifb_ne (tgt := 13) hx hb dX12_owes_5 (by decide) (fun c5 => ?_) (fun c5 => ?_) | refine xif_ne (tgt := 13) hx hb dX12_owes_5 (by decide) (by omega) (fun c5 => ?_) (fun c5 => ?_) | refine lv_if_ne (tgt := 13) hx hb dX12_owes_5 (by decide) (fun c5 => ?_) (fun c5 => ?_)
    · skip
      refine xiload_n hx hb dX12_owes_13 hl rfl ?_
      refine lv_iconst (v := nI 0) hx hb dX12_owes_14 (by decide) ?_
      refine lv_iconst (v := nI 1) hx hb dX12_owes_15 (by decide) ?_
      refine xSi ⟨hx, hb, hml, hown, hts⟩ (kX12_within l N0 G _ _ _ _) (va_cwS 3 hts gX12_owes_X12_within rfl rfl rfl (by decide +kernel) ⟨Nat.le_of_ble_eq_true rfl, Nat.le_of_ble_eq_true rfl⟩) hG hN hw hS rfl hl.1 rfl (Nat.le_of_ble_eq_true rfl) dX12_owes_16 ⟨Nat.le_of_ble_eq_true rfl, Nat.le_of_ble_eq_true rfl⟩ (fun r16 w16 H locs hp16 hw hS => ?_)
      obtain ⟨rfl, rfl⟩ := hp16
      refine xtop (y := bI true) (congrArg bI (wiB_y (by omega) (by omega) (by omega))) ?_
      first | refine xifb_eq (tgt := 31) hx hb dX12_owes_19 (by decide) (fun c19 => ?_) (fun c19 => ?_) | refine xif_eq (tgt := 31) hx hb dX12_owes_19 (by decide) (by omega) (fun c19 => ?_) (fun c19 => ?_) | refine lv_if_eq (tgt := 31) hx hb dX12_owes_19 (by decide) (fun c19 => ?_) (fun c19 => ?_)
      · skip
        exfalso
        cases c19
      · skip
        refine xaload_n hx hb dX12_owes_22 hl rfl ?_
        refine xiload_n hx hb dX12_owes_23 hl rfl ?_
        refine xiload_n hx hb dX12_owes_24 hl rfl ?_
        refine xVi ⟨hx, hb, hml, hown, hts⟩ (kX12_owesNow l N0 G _ _ V A hM S hR hL i k hi hk) (cwV 2 hts gX12_owes_X12_owesNow rfl rfl rfl (by decide +kernel) ⟨Nat.le_of_ble_eq_true rfl, Nat.le_of_ble_eq_true rfl⟩) hG hN hw hS (ci := 12) (by repeat first | assumption | exact wu_eq _ _ _ | refine wu_ne (by omega) ?_) rfl rfl hl.1 rfl (Nat.le_of_ble_eq_true rfl) dX12_owes_25 ⟨Nat.le_of_ble_eq_true rfl, Nat.le_of_ble_eq_true rfl⟩ (fun r25 w25 H locs hp25 hw hS => ?_)
        obtain ⟨rfl, rfl⟩ := hp25
        refine lv_goto (tgt := 33) hx hb dX12_owes_28 (by decide) ?_
        exact xiret hx hb hr hlk hw hS dX12_owes_33 ⟨by rw [v_owes, onR_in hi hi31, onR_in hk hk31], rfl⟩
    · skip
      exfalso
      cases c5
  · skip
    refine xaload_n hx hb dX12_owes_0 hl rfl ?_
    refine xiload_n hx hb dX12_owes_1 hl rfl ?_
    refine xVi ⟨hx, hb, hml, hown, hts⟩ (kX12_isOne l N0 G _ _ V A hM S hR hL _) (cwV 1 hts gX12_owes_X12_isOne rfl rfl rfl (by decide +kernel) ⟨Nat.le_of_ble_eq_true rfl, Nat.le_of_ble_eq_true rfl⟩) hG hN hw hS (ci := 12) (by repeat first | assumption | exact wu_eq _ _ _ | refine wu_ne (by omega) ?_) rfl rfl hl.1 rfl (Nat.le_of_ble_eq_true rfl) dX12_owes_2 ⟨Nat.le_of_ble_eq_true rfl, Nat.le_of_ble_eq_true rfl⟩ (fun r2 w2 H locs hp2 hw hS => ?_)
    obtain ⟨rfl, rfl⟩ := hp2
    refine xtop (y := bI true) (congrArg bI (decide_eq_true (inR_nI hi (by omega)))) ?_
    first | refine xifb_ne (tgt := 13) hx hb dX12_owes_5 (by decide) (fun c5 => ?_) (fun c5 => ?_) | refine xif_ne (tgt := 13) hx hb dX12_owes_5 (by decide) (by omega) (fun c5 => ?_) (fun c5 => ?_) | refine lv_if_ne (tgt := 13) hx hb dX12_owes_5 (by decide) (fun c5 => ?_) (fun c5 => ?_)
    · skip
      refine xiload_n hx hb dX12_owes_13 hl rfl ?_
      refine lv_iconst (v := nI 0) hx hb dX12_owes_14 (by decide) ?_
      refine lv_iconst (v := nI 1) hx hb dX12_owes_15 (by decide) ?_
      refine xSi ⟨hx, hb, hml, hown, hts⟩ (kX12_within l N0 G _ _ _ _) (va_cwS 3 hts gX12_owes_X12_within rfl rfl rfl (by decide +kernel) ⟨Nat.le_of_ble_eq_true rfl, Nat.le_of_ble_eq_true rfl⟩) hG hN hw hS rfl hl.1 rfl (Nat.le_of_ble_eq_true rfl) dX12_owes_16 ⟨Nat.le_of_ble_eq_true rfl, Nat.le_of_ble_eq_true rfl⟩ (fun r16 w16 H locs hp16 hw hS => ?_)
      obtain ⟨rfl, rfl⟩ := hp16
      refine xtop (y := bI false) (congrArg bI (wiB_n hy1 (by omega))) ?_
      first | refine xifb_eq (tgt := 31) hx hb dX12_owes_19 (by decide) (fun c19 => ?_) (fun c19 => ?_) | refine xif_eq (tgt := 31) hx hb dX12_owes_19 (by decide) (by omega) (fun c19 => ?_) (fun c19 => ?_) | refine lv_if_eq (tgt := 31) hx hb dX12_owes_19 (by decide) (fun c19 => ?_) (fun c19 => ?_)
      · skip
        refine lv_bipush (v := -102) hx hb dX12_owes_31 (by decide) ?_
        exact xiret hx hb hr hlk hw hS dX12_owes_33 ⟨by rw [v_owes, onR_in hi hi31, onR_out hy1], rfl⟩
      · skip
        exfalso
        cases c19
    · skip
      exfalso
      cases c5
  · skip
    refine xaload_n hx hb dX12_owes_0 hl rfl ?_
    refine xiload_n hx hb dX12_owes_1 hl rfl ?_
    refine xVi ⟨hx, hb, hml, hown, hts⟩ (kX12_isOne l N0 G _ _ V A hM S hR hL _) (cwV 1 hts gX12_owes_X12_isOne rfl rfl rfl (by decide +kernel) ⟨Nat.le_of_ble_eq_true rfl, Nat.le_of_ble_eq_true rfl⟩) hG hN hw hS (ci := 12) (by repeat first | assumption | exact wu_eq _ _ _ | refine wu_ne (by omega) ?_) rfl rfl hl.1 rfl (Nat.le_of_ble_eq_true rfl) dX12_owes_2 ⟨Nat.le_of_ble_eq_true rfl, Nat.le_of_ble_eq_true rfl⟩ (fun r2 w2 H locs hp2 hw hS => ?_)
    obtain ⟨rfl, rfl⟩ := hp2
    refine xtop (y := bI false) (congrArg bI (decide_eq_false hx1)) ?_
    first | refine xifb_ne (tgt := 13) hx hb dX12_owes_5 (by decide) (fun c5 => ?_) (fun c5 => ?_) | refine xif_ne (tgt := 13) hx hb dX12_owes_5 (by decide) (by omega) (fun c5 => ?_) (fun c5 => ?_) | refine lv_if_ne (tgt := 13) hx hb dX12_owes_5 (by decide) (fun c5 => ?_) (fun c5 => ?_)
    · skip
      exfalso
      cases c5
    · skip
      refine lv_bipush (v := -101) hx hb dX12_owes_8 (by decide) ?_
      refine lv_goto (tgt := 33) hx hb dX12_owes_10 (by decide) ?_
      exact xiret hx hb hr hlk hw hS dX12_owes_33 ⟨by rw [v_owes, onR_out hx1], rfl⟩
  · skip
    refine xaload_n hx hb dX12_owes_0 hl rfl ?_
    refine xiload_n hx hb dX12_owes_1 hl rfl ?_
    refine xVi ⟨hx, hb, hml, hown, hts⟩ (kX12_isOne l N0 G _ _ V A hM S hR hL _) (cwV 1 hts gX12_owes_X12_isOne rfl rfl rfl (by decide +kernel) ⟨Nat.le_of_ble_eq_true rfl, Nat.le_of_ble_eq_true rfl⟩) hG hN hw hS (ci := 12) (by repeat first | assumption | exact wu_eq _ _ _ | refine wu_ne (by omega) ?_) rfl rfl hl.1 rfl (Nat.le_of_ble_eq_true rfl) dX12_owes_2 ⟨Nat.le_of_ble_eq_true rfl, Nat.le_of_ble_eq_true rfl⟩ (fun r2 w2 H locs hp2 hw hS => ?_)
    obtain ⟨rfl, rfl⟩ := hp2
    refine xtop (y := bI false) (congrArg bI (decide_eq_false hx1)) ?_
    first | refine xifb_ne (tgt := 13) hx hb dX12_owes_5 (by decide) (fun c5 => ?_) (fun c5 => ?_) | refine xif_ne (tgt := 13) hx hb dX12_owes_5 (by decide) (by omega) (fun c5 => ?_) (fun c5 => ?_) | refine lv_if_ne (tgt := 13) hx hb dX12_owes_5 (by decide) (fun c5 => ?_) (fun c5 => ?_)
    · skip
      exfalso
      cases c5
    · skip
      refine lv_bipush (v := -101) hx hb dX12_owes_8 (by decide) ?_
      refine lv_goto (tgt := 33) hx hb dX12_owes_10 (by decide) ?_
      exact xiret hx hb hr hlk hw hS dX12_owes_33 ⟨by rw [v_owes, onR_out hx1], rfl⟩
