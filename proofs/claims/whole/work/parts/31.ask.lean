set_option maxHeartbeats 4000000 in
set_option maxRecDepth 100000 in
theorem kX12_handsNow (l : Launch) (N0 : Nat) (G : XG) (w : Wd) (M0 : Nat) (V : Nat → Value) (A : Nat → Nat → Int32) (hM : MW G w M0 V A) (S : QS) (hR : RM S V A) (hL : WB S) (i : Nat) (hi : i < sn S) (hall : ∀ x ∈ sp S i, x < sn S) (hhd : ∀ q ∈ sh S, q.1 < sn S) (t : Nat) (ht4 : t ≤ 4) (z : Nat) (hz2 : z < 2) : XM l yX12_handsNow wsX12_handsNow (rmD 5) N0 G [.ref M0, .int (nI i), .int (nI t), .int (nI z)] w vI (fun r w1 => hndV S i t z = r ∧ ∃ V1 A1, Vh V V1 ∧ Ah A A1 ∧ MW G w1 M0 V1 A1 ∧ Out w w1 M0 (M0 + 20)) 0 0 := by
  refine XM.of (cc := cX12_handsNow) (maxL := 4) (ret := (some .int)) (by decide) rfl (Nat.le_of_ble_eq_true rfl) ?_
  intro p e s m below meth c hx hb hr hlk hin0 hml hown hts hN hw hG hS ls hl
  have hown : s.vm.findClass RX12 = some m.cls := hown
  have hiX12 : ∀ x ∈ u_ws RX12 TX12 37, x ∈ wsX12_handsNow := by decide +kernel
  have hlnk0 := hts (.fieldLink RX12 193 "LentQuillModel" "wayHolders" "I") (by decide +kernel)
  have hlnk1 := hts (.fieldLink RX12 190 "LentQuillModel" "wayMany" "I") (by decide +kernel)
  have hl : lh ls 4 [some (.ref M0), some (.int (nI i)), some (.int (nI t)), some (.int (nI z))] := hl
  obtain ⟨hm0, ⟨hv3, hv4, hv5, hv6, hv8, hv9, hv11, hv12, hv15, hv18, hv19, hv20, hv24, hv30, hv31, hv32, hv33, hv34, hv35⟩, ha1, ha2, ha3, ha4, ha5, ha6, ha7, ha8, ha9, ha10, ha11, ha12, ha13, ha14, ha15, ha16, ha17, ha18, ha19⟩ := id hM
  obtain ⟨ht, hn, hlm, hdn, hhn, has, hpl, hkw, hRB, hpg, hkp⟩ := id hR
  obtain ⟨hn5, hl5, hkd, hsp, hd6, hdw, hh6, hg18, hgr, hIm⟩ := id hL
  refine xaload_n hx hb dX12_handsNow_0 hl rfl ?_
  refine xiload_n hx hb dX12_handsNow_1 hl rfl ?_
  refine xiload_n hx hb dX12_handsNow_2 hl rfl ?_
  refine xVv ⟨hx, hb, hml, hown, hts⟩ (kX12_layHands l N0 G _ _ V A hM S hR hL i hi hall hhd t ht4) (cwV 2 hts gX12_handsNow_X12_layHands rfl rfl rfl (by decide +kernel) ⟨Nat.le_of_ble_eq_true rfl, Nat.le_of_ble_eq_true rfl⟩) hG hN hw hS (ci := 12) (by repeat first | assumption | exact wu_eq _ _ _ | refine wu_ne (by omega) ?_) rfl rfl hl.1 rfl (Nat.le_of_ble_eq_true rfl) dX12_handsNow_3 ⟨Nat.le_of_ble_eq_true rfl, Nat.le_of_ble_eq_true rfl⟩ (fun r3 w3 H locs hp3 hw hS => ?_)
  obtain ⟨V1, A1, hV1, hA1, hM1, hY1, hO1⟩ := hp3
  have hm1c := hM1.1
  have h22 := hY1.1
  have h23 := hY1.2.1
  refine xiload_n hx hb dX12_handsNow_6 hl rfl ?_
  first | refine xifb_ne (tgt := 17) hx hb dX12_handsNow_7 (by decide) (fun c7 => ?_) (fun c7 => ?_) | refine xif_ne (tgt := 17) hx hb dX12_handsNow_7 (by decide) (by omega) (fun c7 => ?_) (fun c7 => ?_) | refine lv_if_ne (tgt := 17) hx hb dX12_handsNow_7 (by decide) (fun c7 => ?_) (fun c7 => ?_)
  · skip
    refine xaload_n hx hb dX12_handsNow_17 hl rfl ?_
    refine xgetM hx hb hts hiX12 hown hG hw (by repeat first | assumption | exact wu_eq _ _ _ | refine wu_ne (by omega) ?_) 23 (by decide) hlnk0 (by repeat first | assumption | exact vu_eq _ _ _ | refine vu_ne (by decide) ?_) dX12_handsNow_18 ?_
    exact xiret hx hb hr hlk hw hS dX12_handsNow_21 ⟨by unfold hndV; first | rw [if_pos c7] | rw [if_neg c7], V1, A1, hV1, hA1, hM1, hO1⟩
  · skip
    refine xaload_n hx hb dX12_handsNow_10 hl rfl ?_
    refine xgetM hx hb hts hiX12 hown hG hw (by repeat first | assumption | exact wu_eq _ _ _ | refine wu_ne (by omega) ?_) 22 (by decide) hlnk1 (by repeat first | assumption | exact vu_eq _ _ _ | refine vu_ne (by decide) ?_) dX12_handsNow_11 ?_
    refine lv_goto (tgt := 21) hx hb dX12_handsNow_14 (by decide) ?_
    exact xiret hx hb hr hlk hw hS dX12_handsNow_21 ⟨by unfold hndV; first | rw [if_pos c7] | rw [if_neg c7], V1, A1, hV1, hA1, hM1, hO1⟩
