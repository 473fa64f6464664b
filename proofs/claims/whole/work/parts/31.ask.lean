theorem ask_end {T : TS} {n p : Nat} (h0 : T.1 = 0 → p = 0) (h : T.1 = 0 ∨ p = n) : askR T n = askI (askGo (wrs T) p) := by
  unfold askR
  by_cases q : T.1 = 0
  · rw [if_pos q, h0 q]; rfl
  · rw [if_neg q, show p = n by omega]
def askL (o : Option (Nat × Nat)) : Nat := match o with | none => 268435456 | some q => q.2
theorem askI_s {f : Nat → Nat} {n : Nat} (h : f n < 268435456) : askI (askGo f (n + 1)) = if f n < askL (askGo f n) then nI n else askI (askGo f n) := by
  rw [askGo]
  cases hq : askGo f n with
  | none => exact (if_pos h).symm
  | some q =>
    by_cases z : f n < q.2
    · simp [askL, z, askI]
    · simp [askL, z, askI]
theorem askL_s {f : Nat → Nat} {n : Nat} (h : f n < 268435456) : askL (askGo f (n + 1)) = if f n < askL (askGo f n) then f n else askL (askGo f n) := by
  rw [askGo]
  cases hq : askGo f n with
  | none => exact (if_pos h).symm
  | some q =>
    by_cases z : f n < q.2
    · simp [askL, z]
    · simp [askL, z]
theorem askL_le {f : Nat → Nat} (hf : ∀ j, f j ≤ 625) : ∀ {n : Nat}, askL (askGo f n) ≤ 268435456
  | 0 => Nat.le_refl _
  | n + 1 => by
    have h1 := hf n
    rw [askL_s (by omega)]
    have := askL_le hf (n := n)
    split <;> omega
set_option maxHeartbeats 4000000 in
set_option maxRecDepth 100000 in
theorem kX12_handsNow (l : Launch) (N0 : Nat) (G : XG) (w : Wd) (M0 : Nat) (V : Nat → Value) (A : Nat → Nat → Int32) (hM : MW G w M0 V A) (S : QS) (hR : RM S V A) (hL : WB S) (i : Nat) (hi : i < sn S) (hall : ∀ x ∈ sp S i, x < sn S) (hhd : ∀ q ∈ sh S, q.1 < sn S) (t : Nat) (ht4 : t ≤ 4) (z : Nat) (hz2 : z < 2) : XM l yX12_handsNow wsX12_handsNow (rmD 5) N0 G [.ref M0, .int (nI i), .int (nI t), .int (nI z)] w vI (fun r w1 => hndV S i t z = r ∧ ∃ V1 A1, Vh V V1 ∧ Ah A A1 ∧ MW G w1 M0 V1 A1 ∧ Out w w1 M0 (M0 + 20)) 0 0 := by
  refine XM.of (cc := cX12_handsNow) (maxL := 4) (ret := (some .int)) (by decide) rfl (Nat.le_of_ble_eq_true rfl) ?_
  intro p e s m below meth c hx hb hr hlk hin0 hml hown hts hN hw hG hS ls hl
  have hown : s.vm.findClass RX12 = some m.cls := hown
  have hiX12 : ∀ x ∈ u_ws RX12 TX12 37, x ∈ wsX12_handsNow := by decide +kernel
  have hlnk0 := hts (.fieldLink RX12 193 "LentQuillModel" "wayHolders" "I") (by decide +kernel)
  have hlnk1 := hts (.fieldLink RX12 190 "LentQuillModel" "wayMany" "I") (by decide +kernel)
  have hl : lh ls 4 [some (.ref M0), some (.int (nI i)), some (.int (nI t)), some (.int (nI z))] := hl
  obtain ⟨hm0, ⟨hv3, hv4, hv5, hv6, hv8, hv9, hv11, hv12, hv15, hv18, hv19, hv20, hv24, hv30, hv31, hv32, hv33, hv34, hv35⟩, ha1, ha2, ha3, ha4, ha5, ha6, ha7, ha8, ha9, ha10, ha11, ha12, ha13, ha14, ha15, ha16, ha17, ha18, ha19⟩ := id hM
  obtain ⟨ht, hn, hlm, hdn, hhn, has, hpl, hkw, hRB, hpg, hkp⟩ := id hR
  obtain ⟨hn5, hl5, hkd, hsp, hd6, hdw, hh6, hg18, hgr, hIm⟩ := id hL
  refine xaload_n hx hb dX12_handsNow_0 hl rfl ?_
  refine xiload_n hx hb dX12_handsNow_1 hl rfl ?_
  refine xiload_n hx hb dX12_handsNow_2 hl rfl ?_
  refine xVv ⟨hx, hb, hml, hown, hts⟩ (kX12_layHands l N0 G _ _ V A hM S hR hL i hi hall hhd t ht4) (cwV 2 hts gX12_handsNow_X12_layHands rfl rfl rfl (by decide +kernel) ⟨Nat.le_of_ble_eq_true rfl, Nat.le_of_ble_eq_true rfl⟩) hG hN hw hS (ci := 12) (by repeat first | assumption | exact wu_eq _ _ _ | refine wu_ne (by omega) ?_) rfl rfl hl.1 rfl (Nat.le_of_ble_eq_true rfl) dX12_handsNow_3 ⟨Nat.le_of_ble_eq_true rfl, Nat.le_of_ble_eq_true rfl⟩ (fun r3 w3 H locs hp3 hw hS => ?_)
  obtain ⟨V1, A1, hV1, hA1, hM1, hY1, hO1⟩ := hp3
  have hm1c := hM1.1
  have h22 := hY1.1
  have h23 := hY1.2.1
  refine xiload_n hx hb dX12_handsNow_6 hl rfl ?_
  first | refine xifb_ne (tgt := 17) hx hb dX12_handsNow_7 (by decide) (fun c7 => ?_) (fun c7 => ?_) | refine xif_ne (tgt := 17) hx hb dX12_handsNow_7 (by decide) (by omega) (fun c7 => ?_) (fun c7 => ?_) | refine lv_if_ne (tgt := 17) hx hb dX12_handsNow_7 (by decide) (fun c7 => ?_) (fun c7 => ?_)
  · skip
    refine xaload_n hx hb dX12_handsNow_17 hl rfl ?_
    refine xgetM hx hb hts hiX12 hown hG hw (by repeat first | assumption | exact wu_eq _ _ _ | refine wu_ne (by omega) ?_) 23 (by decide) hlnk0 (by repeat first | assumption | exact vu_eq _ _ _ | refine vu_ne (by decide) ?_) dX12_handsNow_18 ?_
    exact xiret hx hb hr hlk hw hS dX12_handsNow_21 ⟨by unfold hndV; first | rw [if_pos c7] | rw [if_neg c7], V1, A1, hV1, hA1, hM1, hO1⟩
  · skip
    refine xaload_n hx hb dX12_handsNow_10 hl rfl ?_
    refine xgetM hx hb hts hiX12 hown hG hw (by repeat first | assumption | exact wu_eq _ _ _ | refine wu_ne (by omega) ?_) 22 (by decide) hlnk1 (by repeat first | assumption | exact vu_eq _ _ _ | refine vu_ne (by decide) ?_) dX12_handsNow_11 ?_
    refine lv_goto (tgt := 21) hx hb dX12_handsNow_14 (by decide) ?_
    exact xiret hx hb hr hlk hw hS dX12_handsNow_21 ⟨by unfold hndV; first | rw [if_pos c7] | rw [if_neg c7], V1, A1, hV1, hA1, hM1, hO1⟩
set_option maxHeartbeats 4000000 in
set_option maxRecDepth 100000 in
theorem kX12_askNow (l : Launch) (N0 : Nat) (G : XG) (w : Wd) (M0 : Nat) (V : Nat → Value) (A : Nat → Nat → Int32) (hM : MW G w M0 V A) (S : QS) (hR : RM S V A) (hL : WB S) (i : Nat) (hi : i < sn S) (hall : ∀ x ∈ sp S i, x < sn S) (hhd : ∀ q ∈ sh S, q.1 < sn S) (t : Nat) (ht4 : t ≤ 4) : XM l yX12_askNow wsX12_askNow (rmD 5) N0 G [.ref M0, .int (nI i), .int (nI t)] w vI (fun r w1 => askV S i t = r ∧ ∃ V1 A1, Vh V V1 ∧ Ah A A1 ∧ MW G w1 M0 V1 A1 ∧ Out w w1 M0 (M0 + 20)) 0 0 := by
  refine XM.of (cc := cX12_askNow) (maxL := 8) (ret := (some .int)) (by decide) rfl (Nat.le_of_ble_eq_true rfl) ?_
  intro p e s m below meth c hx hb hr hlk hin0 hml hown hts hN hw hG hS ls hl
  have hown : s.vm.findClass RX12 = some m.cls := hown
  have hiX12 : ∀ x ∈ u_ws RX12 TX12 37, x ∈ wsX12_askNow := by decide +kernel
  have hlnk0 := hts (.constant RX12 205 (268435456)) (by decide +kernel)
  have hlnk1 := hts (.fieldLink RX12 94 "LentQuillModel" "people" "I") (by decide +kernel)
  have hlnk2 := hts (.fieldLink RX12 190 "LentQuillModel" "wayMany" "I") (by decide +kernel)
  have hlnk3 := hts (.fieldLink RX12 47 "LentQuillModel" "wayBound" "[I") (by decide +kernel)
  have hl : lh ls 8 [some (.ref M0), some (.int (nI i)), some (.int (nI t)), none, none, none, none, none] := hl
  obtain ⟨hm0, ⟨hv3, hv4, hv5, hv6, hv8, hv9, hv11, hv12, hv15, hv18, hv19, hv20, hv24, hv30, hv31, hv32, hv33, hv34, hv35⟩, ha1, ha2, ha3, ha4, ha5, ha6, ha7, ha8, ha9, ha10, ha11, ha12, ha13, ha14, ha15, ha16, ha17, ha18, ha19⟩ := id hM
  obtain ⟨ht, hn, hlm, hdn, hhn, has, hpl, hkw, hRB, hpg, hkp⟩ := id hR
  obtain ⟨hn5, hl5, hkd, hsp, hd6, hdw, hh6, hg18, hgr, hIm⟩ := id hL
  have hle := handS_le (lim := sL S) (hd := sh S) (h := sp S i) hn5 ht4
  have hle : (hndT S i t).1 ≤ 625 ∧ ∀ j, (hndT S i t).2.2 j ≤ (hndT S i t).1 := hle
  refine xaload_n hx hb dX12_askNow_0 hl rfl ?_
  refine xiload_n hx hb dX12_askNow_1 hl rfl ?_
  refine xiload_n hx hb dX12_askNow_2 hl rfl ?_
  refine xVv ⟨hx, hb, hml, hown, hts⟩ (kX12_layHands l N0 G _ _ V A hM S hR hL i hi hall hhd t ht4) (cwV 2 hts gX12_askNow_X12_layHands rfl rfl rfl (by decide +kernel) ⟨Nat.le_of_ble_eq_true rfl, Nat.le_of_ble_eq_true rfl⟩) hG hN hw hS (ci := 12) (by repeat first | assumption | exact wu_eq _ _ _ | refine wu_ne (by omega) ?_) rfl rfl hl.1 rfl (Nat.le_of_ble_eq_true rfl) dX12_askNow_3 ⟨Nat.le_of_ble_eq_true rfl, Nat.le_of_ble_eq_true rfl⟩ (fun r3 w3 H locs hp3 hw hS => ?_)
  obtain ⟨V1, A1, hV1, hA1, hM1, hY1, hO1⟩ := hp3
  have hm1c := hM1.1
  have h22 := hY1.1
  have h23 := hY1.2.1
  refine lv_iconst (v := -1) hx hb dX12_askNow_6 (by decide) ?_
  refine xistore_n hx hb dX12_askNow_7 hl (by decide) rfl (fun ls hl => ?_)
  refine lv_ldc hx hb hown hlnk0 dX12_askNow_8 ?_
  refine xtop (y := nI 268435456) (by decide) ?_
  refine xistore hx hb dX12_askNow_10 hl (by decide) rfl (fun ls hl => ?_)
  refine lv_iconst (v := nI 0) hx hb dX12_askNow_12 (by decide) ?_
  refine xistore hx hb dX12_askNow_13 hl (by decide) rfl (fun ls hl => ?_)
  have loop15 : ∀ (nf : Nat) (p1 : Nat) (u v : Option Value) (H : Heap) (locs : List Loc) (ls : Array Slot), sn S - p1 < nf → (p1 ≤ sn S) → ((hndT S i t).1 = 0 → p1 = 0) → PW N0 G w3 H → va_S (fun q => N0 ≤ q) s.heap H locs → lh ls 8 [some (.ref M0), some (.int (nI i)), some (.int (nI t)), some (.int (askI (askGo (wrs (hndT S i t)) p1))), some (.int (nI (askL (askGo (wrs (hndT S i t)) p1)))), some (.int (nI p1)), u, v] → W p l e (rmD 5) s m ([.ref M0, .int (nI i), .int (nI t)] : List Value).toArray below meth c H locs 0 0 (MQ below (XQ N0 G vI (fun r w1 => askV S i t = r ∧ ∃ V1 A1, Vh V V1 ∧ Ah A A1 ∧ MW G w1 M0 V1 A1 ∧ Out w w1 M0 (M0 + 20))) ([.ref M0, .int (nI i), .int (nI t)] : List Value).toArray s 0 0 (fun q => N0 ≤ q)) (F0 m 15 ls []) := by
    intro nf
    induction nf with
    | zero => intros; omega
    | succ nf ih15 =>
      intro p1 u v H locs ls hnf hp h0 hw hS hl
      obtain ⟨hm0z, ⟨hv3z, hv4z, hv5z, hv6z, hv8z, hv9z, hv11z, hv12z, hv15z, hv18z, hv19z, hv20z, hv24z, hv30z, hv31z, hv32z, hv33z, hv34z, hv35z⟩, ha1z, ha2z, ha3z, ha4z, ha5z, ha6z, ha7z, ha8z, ha9z, ha10z, ha11z, ha12z, ha13z, ha14z, ha15z, ha16z, ha17z, ha18z, ha19z⟩ := id hM1
      have hpe := (rm_h hR hV1 hA1).2.1
      have hlp := hle.2 p1
      have hl1 := hle.1
      have hwl : wrs (hndT S i t) p1 ≤ 625 := by unfold wrs; omega
      have hal := askL_le (f := wrs (hndT S i t)) (n := p1) (fun j => by have := hle.2 j; unfold wrs; omega)
      refine xiload hx hb dX12_askNow_15 hl rfl ?_
      refine xaload_n hx hb dX12_askNow_17 hl rfl ?_
      refine xgetM hx hb hts hiX12 hown hG hw (by repeat first | assumption | exact wu_eq _ _ _ | refine wu_ne (by omega) ?_) 1 (by decide) hlnk1 (by repeat first | assumption | exact vu_eq _ _ _ | refine vu_ne (by decide) ?_) dX12_askNow_18 ?_
      first | refine xcmp_ge (tgt := 107) hx hb dX12_askNow_21 (by decide) (by omega) (by omega) (fun c21 => ?_) (fun c21 => ?_) | refine lv_icmp_ge (tgt := 107) hx hb dX12_askNow_21 (by decide) (fun c21 => ?_) (fun c21 => ?_)
      · skip
        refine xiload_n hx hb dX12_askNow_107 hl rfl ?_
        exact xiret hx hb hr hlk hw hS dX12_askNow_108 ⟨ask_end h0 (by omega), V1, A1, hV1, hA1, hM1, hO1⟩
      · skip
        refine xaload_n hx hb dX12_askNow_24 hl rfl ?_
        refine xgetM hx hb hts hiX12 hown hG hw (by repeat first | assumption | exact wu_eq _ _ _ | refine wu_ne (by omega) ?_) 22 (by decide) hlnk2 (by repeat first | assumption | exact vu_eq _ _ _ | refine vu_ne (by decide) ?_) dX12_askNow_25 ?_
        refine xif_le (tgt := 107) hx hb dX12_askNow_28 (by decide) (by omega) (fun c28 => ?_) (fun c28 => ?_)
        · skip
          refine xiload_n hx hb dX12_askNow_107 hl rfl ?_
          exact xiret hx hb hr hlk hw hS dX12_askNow_108 ⟨ask_end h0 (by omega), V1, A1, hV1, hA1, hM1, hO1⟩
        · skip
          refine xaload_n hx hb dX12_askNow_31 hl rfl ?_
          refine xgetM hx hb hts hiX12 hown hG hw (by repeat first | assumption | exact wu_eq _ _ _ | refine wu_ne (by omega) ?_) 22 (by decide) hlnk2 (by repeat first | assumption | exact vu_eq _ _ _ | refine vu_ne (by decide) ?_) dX12_askNow_32 ?_
          refine xaload_n hx hb dX12_askNow_35 hl rfl ?_
          refine xgetM hx hb hts hiX12 hown hG hw (by repeat first | assumption | exact wu_eq _ _ _ | refine wu_ne (by omega) ?_) 24 (by decide) hlnk3 (by repeat first | assumption | exact vu_eq _ _ _ | refine vu_ne (by decide) ?_) dX12_askNow_36 ?_
          refine xiload hx hb dX12_askNow_39 hl rfl ?_
          refine xiald hx hb hG hw (by repeat first | assumption | exact wu_eq _ _ _ | refine wu_ne (by omega) ?_) (by omega) (by omega) dX12_askNow_41 ?_
          have h13 := hY1.2.2 p1 (by omega)
          refine xtop h13 ?_
          first | refine xsub hx hb dX12_askNow_42 (by omega) ?_ | refine lv_isub hx hb dX12_askNow_42 ?_
          refine xistore hx hb dX12_askNow_43 hl (by decide) rfl (fun ls hl => ?_)
          refine xaload_n hx hb dX12_askNow_45 hl rfl ?_
          refine xgetM hx hb hts hiX12 hown hG hw (by repeat first | assumption | exact wu_eq _ _ _ | refine wu_ne (by omega) ?_) 24 (by decide) hlnk3 (by repeat first | assumption | exact vu_eq _ _ _ | refine vu_ne (by decide) ?_) dX12_askNow_46 ?_
          refine xiload hx hb dX12_askNow_49 hl rfl ?_
          refine xiald hx hb hG hw (by repeat first | assumption | exact wu_eq _ _ _ | refine wu_ne (by omega) ?_) (by omega) (by omega) dX12_askNow_51 ?_
          refine xtop h13 ?_
          refine xiload hx hb dX12_askNow_52 hl rfl ?_
          first | refine xcmp_le (tgt := 67) hx hb dX12_askNow_54 (by decide) (by omega) (by omega) (fun c54 => ?_) (fun c54 => ?_) | refine lv_icmp_le (tgt := 67) hx hb dX12_askNow_54 (by decide) (fun c54 => ?_) (fun c54 => ?_)
          · skip
            refine xiload hx hb dX12_askNow_67 hl rfl ?_
            refine xtop (y := nI (wrs (hndT S i t) p1)) (congrArg nI (by unfold wrs; omega)) ?_
            refine xistore hx hb dX12_askNow_69 hl (by decide) rfl (fun ls hl => ?_)
            refine xiload hx hb dX12_askNow_71 hl rfl ?_
            refine xiload hx hb dX12_askNow_73 hl rfl ?_
            first | refine xcmp_ge (tgt := 83) hx hb dX12_askNow_75 (by decide) (by omega) (by omega) (fun c75 => ?_) (fun c75 => ?_) | refine lv_icmp_ge (tgt := 83) hx hb dX12_askNow_75 (by decide) (fun c75 => ?_) (fun c75 => ?_)
            · skip
              refine xiload_n hx hb dX12_askNow_83 hl rfl ?_
              refine xtop (y := askI (askGo (wrs (hndT S i t)) (p1 + 1))) (by rw [askI_s (by omega)]; first | rw [if_neg (by omega)] | rw [if_pos (by omega)]) ?_
              refine xistore_n hx hb dX12_askNow_84 hl (by decide) rfl (fun ls hl => ?_)
              refine xiload hx hb dX12_askNow_85 hl rfl ?_
              refine xiload hx hb dX12_askNow_87 hl rfl ?_
              first | refine xcmp_ge (tgt := 97) hx hb dX12_askNow_89 (by decide) (by omega) (by omega) (fun c89 => ?_) (fun c89 => ?_) | refine lv_icmp_ge (tgt := 97) hx hb dX12_askNow_89 (by decide) (fun c89 => ?_) (fun c89 => ?_)
              · skip
                refine xiload hx hb dX12_askNow_97 hl rfl ?_
                refine xtop (y := nI (askL (askGo (wrs (hndT S i t)) (p1 + 1)))) (by rw [askL_s (by omega)]; first | (exfalso; omega) | rw [if_neg (by omega)] | rw [if_pos (by omega)]) ?_
                refine xistore hx hb dX12_askNow_99 hl (by decide) rfl (fun ls hl => ?_)
                first | refine xiincN hx hb 1 dX12_askNow_101 hl rfl (by decide) (by decide) rfl (fun ls hl => ?_) | refine xiinc hx hb dX12_askNow_101 hl rfl rfl (by decide) rfl (fun ls hl => ?_)
                refine lv_goto (tgt := 15) hx hb dX12_askNow_104 (by decide) ?_
                exact ih15 (p1 + 1) _ _ _ _ _ (by omega) (by omega) (fun z => by omega) hw hS hl
              · skip
                refine xiload hx hb dX12_askNow_92 hl rfl ?_
                refine lv_goto (tgt := 99) hx hb dX12_askNow_94 (by decide) ?_
                refine xtop (y := nI (askL (askGo (wrs (hndT S i t)) (p1 + 1)))) (by rw [askL_s (by omega)]; first | (exfalso; omega) | rw [if_neg (by omega)] | rw [if_pos (by omega)]) ?_
                refine xistore hx hb dX12_askNow_99 hl (by decide) rfl (fun ls hl => ?_)
                first | refine xiincN hx hb 1 dX12_askNow_101 hl rfl (by decide) (by decide) rfl (fun ls hl => ?_) | refine xiinc hx hb dX12_askNow_101 hl rfl rfl (by decide) rfl (fun ls hl => ?_)
                refine lv_goto (tgt := 15) hx hb dX12_askNow_104 (by decide) ?_
                exact ih15 (p1 + 1) _ _ _ _ _ (by omega) (by omega) (fun z => by omega) hw hS hl
            · skip
              refine xiload hx hb dX12_askNow_78 hl rfl ?_
              refine lv_goto (tgt := 84) hx hb dX12_askNow_80 (by decide) ?_
              refine xtop (y := askI (askGo (wrs (hndT S i t)) (p1 + 1))) (by rw [askI_s (by omega)]; first | rw [if_neg (by omega)] | rw [if_pos (by omega)]) ?_
              refine xistore_n hx hb dX12_askNow_84 hl (by decide) rfl (fun ls hl => ?_)
              refine xiload hx hb dX12_askNow_85 hl rfl ?_
              refine xiload hx hb dX12_askNow_87 hl rfl ?_
              first | refine xcmp_ge (tgt := 97) hx hb dX12_askNow_89 (by decide) (by omega) (by omega) (fun c89 => ?_) (fun c89 => ?_) | refine lv_icmp_ge (tgt := 97) hx hb dX12_askNow_89 (by decide) (fun c89 => ?_) (fun c89 => ?_)
              · skip
                refine xiload hx hb dX12_askNow_97 hl rfl ?_
                refine xtop (y := nI (askL (askGo (wrs (hndT S i t)) (p1 + 1)))) (by rw [askL_s (by omega)]; first | (exfalso; omega) | rw [if_neg (by omega)] | rw [if_pos (by omega)]) ?_
                refine xistore hx hb dX12_askNow_99 hl (by decide) rfl (fun ls hl => ?_)
                first | refine xiincN hx hb 1 dX12_askNow_101 hl rfl (by decide) (by decide) rfl (fun ls hl => ?_) | refine xiinc hx hb dX12_askNow_101 hl rfl rfl (by decide) rfl (fun ls hl => ?_)
                refine lv_goto (tgt := 15) hx hb dX12_askNow_104 (by decide) ?_
                exact ih15 (p1 + 1) _ _ _ _ _ (by omega) (by omega) (fun z => by omega) hw hS hl
              · skip
                refine xiload hx hb dX12_askNow_92 hl rfl ?_
                refine lv_goto (tgt := 99) hx hb dX12_askNow_94 (by decide) ?_
                refine xtop (y := nI (askL (askGo (wrs (hndT S i t)) (p1 + 1)))) (by rw [askL_s (by omega)]; first | (exfalso; omega) | rw [if_neg (by omega)] | rw [if_pos (by omega)]) ?_
                refine xistore hx hb dX12_askNow_99 hl (by decide) rfl (fun ls hl => ?_)
                first | refine xiincN hx hb 1 dX12_askNow_101 hl rfl (by decide) (by decide) rfl (fun ls hl => ?_) | refine xiinc hx hb dX12_askNow_101 hl rfl rfl (by decide) rfl (fun ls hl => ?_)
                refine lv_goto (tgt := 15) hx hb dX12_askNow_104 (by decide) ?_
                exact ih15 (p1 + 1) _ _ _ _ _ (by omega) (by omega) (fun z => by omega) hw hS hl
          · skip
            refine xaload_n hx hb dX12_askNow_57 hl rfl ?_
            refine xgetM hx hb hts hiX12 hown hG hw (by repeat first | assumption | exact wu_eq _ _ _ | refine wu_ne (by omega) ?_) 24 (by decide) hlnk3 (by repeat first | assumption | exact vu_eq _ _ _ | refine vu_ne (by decide) ?_) dX12_askNow_58 ?_
            refine xiload hx hb dX12_askNow_61 hl rfl ?_
            refine xiald hx hb hG hw (by repeat first | assumption | exact wu_eq _ _ _ | refine wu_ne (by omega) ?_) (by omega) (by omega) dX12_askNow_63 ?_
            refine xtop h13 ?_
            refine lv_goto (tgt := 69) hx hb dX12_askNow_64 (by decide) ?_
            refine xtop (y := nI (wrs (hndT S i t) p1)) (congrArg nI (by unfold wrs; omega)) ?_
            refine xistore hx hb dX12_askNow_69 hl (by decide) rfl (fun ls hl => ?_)
            refine xiload hx hb dX12_askNow_71 hl rfl ?_
            refine xiload hx hb dX12_askNow_73 hl rfl ?_
            first | refine xcmp_ge (tgt := 83) hx hb dX12_askNow_75 (by decide) (by omega) (by omega) (fun c75 => ?_) (fun c75 => ?_) | refine lv_icmp_ge (tgt := 83) hx hb dX12_askNow_75 (by decide) (fun c75 => ?_) (fun c75 => ?_)
            · skip
              refine xiload_n hx hb dX12_askNow_83 hl rfl ?_
              refine xtop (y := askI (askGo (wrs (hndT S i t)) (p1 + 1))) (by rw [askI_s (by omega)]; first | rw [if_neg (by omega)] | rw [if_pos (by omega)]) ?_
              refine xistore_n hx hb dX12_askNow_84 hl (by decide) rfl (fun ls hl => ?_)
              refine xiload hx hb dX12_askNow_85 hl rfl ?_
              refine xiload hx hb dX12_askNow_87 hl rfl ?_
              first | refine xcmp_ge (tgt := 97) hx hb dX12_askNow_89 (by decide) (by omega) (by omega) (fun c89 => ?_) (fun c89 => ?_) | refine lv_icmp_ge (tgt := 97) hx hb dX12_askNow_89 (by decide) (fun c89 => ?_) (fun c89 => ?_)
              · skip
                refine xiload hx hb dX12_askNow_97 hl rfl ?_
                refine xtop (y := nI (askL (askGo (wrs (hndT S i t)) (p1 + 1)))) (by rw [askL_s (by omega)]; first | (exfalso; omega) | rw [if_neg (by omega)] | rw [if_pos (by omega)]) ?_
                refine xistore hx hb dX12_askNow_99 hl (by decide) rfl (fun ls hl => ?_)
                first | refine xiincN hx hb 1 dX12_askNow_101 hl rfl (by decide) (by decide) rfl (fun ls hl => ?_) | refine xiinc hx hb dX12_askNow_101 hl rfl rfl (by decide) rfl (fun ls hl => ?_)
                refine lv_goto (tgt := 15) hx hb dX12_askNow_104 (by decide) ?_
                exact ih15 (p1 + 1) _ _ _ _ _ (by omega) (by omega) (fun z => by omega) hw hS hl
              · skip
                refine xiload hx hb dX12_askNow_92 hl rfl ?_
                refine lv_goto (tgt := 99) hx hb dX12_askNow_94 (by decide) ?_
                refine xtop (y := nI (askL (askGo (wrs (hndT S i t)) (p1 + 1)))) (by rw [askL_s (by omega)]; first | (exfalso; omega) | rw [if_neg (by omega)] | rw [if_pos (by omega)]) ?_
                refine xistore hx hb dX12_askNow_99 hl (by decide) rfl (fun ls hl => ?_)
                first | refine xiincN hx hb 1 dX12_askNow_101 hl rfl (by decide) (by decide) rfl (fun ls hl => ?_) | refine xiinc hx hb dX12_askNow_101 hl rfl rfl (by decide) rfl (fun ls hl => ?_)
                refine lv_goto (tgt := 15) hx hb dX12_askNow_104 (by decide) ?_
                exact ih15 (p1 + 1) _ _ _ _ _ (by omega) (by omega) (fun z => by omega) hw hS hl
            · skip
              refine xiload hx hb dX12_askNow_78 hl rfl ?_
              refine lv_goto (tgt := 84) hx hb dX12_askNow_80 (by decide) ?_
              refine xtop (y := askI (askGo (wrs (hndT S i t)) (p1 + 1))) (by rw [askI_s (by omega)]; first | rw [if_neg (by omega)] | rw [if_pos (by omega)]) ?_
              refine xistore_n hx hb dX12_askNow_84 hl (by decide) rfl (fun ls hl => ?_)
              refine xiload hx hb dX12_askNow_85 hl rfl ?_
              refine xiload hx hb dX12_askNow_87 hl rfl ?_
              first | refine xcmp_ge (tgt := 97) hx hb dX12_askNow_89 (by decide) (by omega) (by omega) (fun c89 => ?_) (fun c89 => ?_) | refine lv_icmp_ge (tgt := 97) hx hb dX12_askNow_89 (by decide) (fun c89 => ?_) (fun c89 => ?_)
              · skip
                refine xiload hx hb dX12_askNow_97 hl rfl ?_
                refine xtop (y := nI (askL (askGo (wrs (hndT S i t)) (p1 + 1)))) (by rw [askL_s (by omega)]; first | (exfalso; omega) | rw [if_neg (by omega)] | rw [if_pos (by omega)]) ?_
                refine xistore hx hb dX12_askNow_99 hl (by decide) rfl (fun ls hl => ?_)
                first | refine xiincN hx hb 1 dX12_askNow_101 hl rfl (by decide) (by decide) rfl (fun ls hl => ?_) | refine xiinc hx hb dX12_askNow_101 hl rfl rfl (by decide) rfl (fun ls hl => ?_)
                refine lv_goto (tgt := 15) hx hb dX12_askNow_104 (by decide) ?_
                exact ih15 (p1 + 1) _ _ _ _ _ (by omega) (by omega) (fun z => by omega) hw hS hl
              · skip
                refine xiload hx hb dX12_askNow_92 hl rfl ?_
                refine lv_goto (tgt := 99) hx hb dX12_askNow_94 (by decide) ?_
                refine xtop (y := nI (askL (askGo (wrs (hndT S i t)) (p1 + 1)))) (by rw [askL_s (by omega)]; first | (exfalso; omega) | rw [if_neg (by omega)] | rw [if_pos (by omega)]) ?_
                refine xistore hx hb dX12_askNow_99 hl (by decide) rfl (fun ls hl => ?_)
                first | refine xiincN hx hb 1 dX12_askNow_101 hl rfl (by decide) (by decide) rfl (fun ls hl => ?_) | refine xiinc hx hb dX12_askNow_101 hl rfl rfl (by decide) rfl (fun ls hl => ?_)
                refine lv_goto (tgt := 15) hx hb dX12_askNow_104 (by decide) ?_
                exact ih15 (p1 + 1) _ _ _ _ _ (by omega) (by omega) (fun z => by omega) hw hS hl
  exact loop15 (sn S + 1) 0 none none _ _ _ (by omega) (by omega) (fun _ => rfl) hw hS hl
