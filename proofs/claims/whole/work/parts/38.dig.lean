theorem rm_36 {S : QS} {V : Nat → Value} {A : Nat → Nat → Int32} {x : Value} (hR : RM S V A) : RM S (vu V 36 x) A := hR
set_option maxHeartbeats 4000000 in
set_option maxRecDepth 100000 in
theorem kX12_mix (l : Launch) (N0 : Nat) (G : XG) (w : Wd) (M0 : Nat) (V : Nat → Value) (A : Nat → Nat → Int32) (hM : MW G w M0 V A) (h v : Int64) (h36 : V 36 = .long h) : XM l yX12_mix wsX12_mix (rmD 1) N0 G [.ref M0, .long v] w vV (fun _ w1 => wu w M0 (eO 12 (mfl (vu V 36 (.long (31 * h + v))))) = w1) 0 0 := by
  refine XM.of (cc := cX12_mix) (maxL := 3) (ret := none) (by decide) rfl (Nat.le_of_ble_eq_true rfl) ?_
  intro p e s m below meth c hx hb hr hlk hin0 hml hown hts hN hw hG hS ls hl
  have hown : s.vm.findClass RX12 = some m.cls := hown
  have hiX12 : ∀ x ∈ u_ws RX12 TX12 37, x ∈ wsX12_mix := by decide +kernel
  have hlnk0 := hts (.constantLong RX12 248 (31)) (by decide +kernel)
  have hlnk1 := hts (.fieldLink RX12 250 "LentQuillModel" "h" "J") (by decide +kernel)
  have hl : lh ls 3 [some (.ref M0), some (.long v), none] := hl
  obtain ⟨hm0, ⟨hv3, hv4, hv5, hv6, hv8, hv9, hv11, hv12, hv15, hv18, hv19, hv20, hv24, hv30, hv31, hv32, hv33, hv34, hv35⟩, ha1, ha2, ha3, ha4, ha5, ha6, ha7, ha8, ha9, ha10, ha11, ha12, ha13, ha14, ha15, ha16, ha17, ha18, ha19⟩ := id hM
  refine xaload_n hx hb dX12_mix_0 hl rfl ?_
  refine lv_ldc2 hx hb hown hlnk0 dX12_mix_1 ?_
  refine xtopl (y := lN 31) (by decide) ?_
  refine xaload_n hx hb dX12_mix_4 hl rfl ?_
  refine xgetM hx hb hts hiX12 hown hG hw (by repeat first | assumption | exact wu_eq _ _ _ | refine wu_ne (by omega) ?_) 36 (by decide) hlnk1 (by repeat first | assumption | exact vu_eq _ _ _ | refine vu_ne (by decide) ?_) dX12_mix_5 ?_
  first | refine xlmul hx hb dX12_mix_8 ?_ | refine lv_lmul hx hb dX12_mix_8 ?_
  refine xlload_n hx hb dX12_mix_9 hl rfl ?_
  first | refine xladd hx hb dX12_mix_10 ?_ | refine lv_ladd hx hb dX12_mix_10 ?_
  refine xputM (ty := .long) hx hb hts hiX12 hown hG hw hS (by repeat first | assumption | exact wu_eq _ _ _ | refine wu_ne (by omega) ?_) 36 (by decide) hlnk1 rfl (by decide +kernel) rfl rfl dX12_mix_11 (fun H locs hzz hw hS => ?_)
  exact xvret hx hb hr hlk hw hS dX12_mix_14 (rfl)
set_option maxHeartbeats 4000000 in
set_option maxRecDepth 100000 in
theorem kX12_mixOne (l : Launch) (N0 : Nat) (G : XG) (w : Wd) (M0 : Nat) (V : Nat → Value) (A : Nat → Nat → Int32) (hM : MW G w M0 V A) (S : QS) (hR : RM S V A) (hL : WB S) (hpa : ∀ i, i < sn S → ∀ x ∈ sp S i, x < sn S) (hhd : ∀ q ∈ sh S, q.1 < sn S) (h : Int64) (h36 : V 36 = .long h) (p1 : Nat) (hp1 : p1 < sn S) : XM l yX12_mixOne wsX12_mixOne (rmD 6) N0 G [.ref M0, .int (nI p1)] w vV (fun _ w1 => ∃ V1 A1, MW G w1 M0 V1 A1 ∧ RM S V1 A1 ∧ V1 36 = .long (digP S h p1) ∧ Out w w1 M0 (M0 + 20)) 0 0 := by
  refine XM.of (cc := cX12_mixOne) (maxL := 3) (ret := none) (by decide) rfl (Nat.le_of_ble_eq_true rfl) ?_
  intro p e s m below meth c hx hb hr hlk hin0 hml hown hts hN hw hG hS ls hl
  have hown : s.vm.findClass RX12 = some m.cls := hown
  have hl : lh ls 3 [some (.ref M0), some (.int (nI p1)), none] := hl
  obtain ⟨hm0, ⟨hv3, hv4, hv5, hv6, hv8, hv9, hv11, hv12, hv15, hv18, hv19, hv20, hv24, hv30, hv31, hv32, hv33, hv34, hv35⟩, ha1, ha2, ha3, ha4, ha5, ha6, ha7, ha8, ha9, ha10, ha11, ha12, ha13, ha14, ha15, ha16, ha17, ha18, ha19⟩ := id hM
  obtain ⟨ht, hn, hlm, hdn, hhn, has, hpl, hkw, hRB, hpg, hkp⟩ := id hR
  obtain ⟨hn5, hl5, hkd, hsp, hd6, hdw, hh6, hg18, hgr, hIm⟩ := id hL
  refine lv_iconst (v := nI 0) hx hb dX12_mixOne_0 (by decide) ?_
  refine xistore_n hx hb dX12_mixOne_1 hl (by decide) rfl (fun ls hl => ?_)
  have loop2 : ∀ (nf : Nat) (k : Nat) (V1 : Nat → Value) (A1 : Nat → Nat → Int32) (w1 : Wd) (H : Heap) (locs : List Loc) (ls : Array Slot), 6 - k < nf → (k ≤ 6) → (MW G w1 M0 V1 A1) → (RM S V1 A1) → (V1 36 = .long (mxs (oneV S p1) h k)) → (Out w w1 M0 (M0 + 20)) → PW N0 G w1 H → va_S (fun q => N0 ≤ q) s.heap H locs → lh ls 3 [some (.ref M0), some (.int (nI p1)), some (.int (nI k))] → W p l e (rmD 6) s m ([.ref M0, .int (nI p1)] : List Value).toArray below meth c H locs 0 0 (MQ below (XQ N0 G vV (fun _ w1 => ∃ V1 A1, MW G w1 M0 V1 A1 ∧ RM S V1 A1 ∧ V1 36 = .long (digP S h p1) ∧ Out w w1 M0 (M0 + 20))) ([.ref M0, .int (nI p1)] : List Value).toArray s 0 0 (fun q => N0 ≤ q)) (F0 m 2 ls []) := by
    intro nf
    induction nf with
    | zero => intros; omega
    | succ nf ih2 =>
      intro k V1 A1 w1 H locs ls hnf hk hM1 hR1 h361 hO1 hw hS hl
      have hm1c := hM1.1
      refine xiload_n hx hb dX12_mixOne_2 hl rfl ?_
      refine lv_bipush (v := nI 6) hx hb dX12_mixOne_3 (by decide) ?_
      first | refine xcmp_ge (tgt := 25) hx hb dX12_mixOne_5 (by decide) (by omega) (by omega) (fun c5 => ?_) (fun c5 => ?_) | refine lv_icmp_ge (tgt := 25) hx hb dX12_mixOne_5 (by decide) (fun c5 => ?_) (fun c5 => ?_)
      · skip
        obtain rfl : k = 6 := by omega
        refine xaload_n hx hb dX12_mixOne_25 hl rfl ?_
        refine xaload_n hx hb dX12_mixOne_26 hl rfl ?_
        refine xiload_n hx hb dX12_mixOne_27 hl rfl ?_
        refine lv_iconst (v := nI 0) hx hb dX12_mixOne_28 (by decide) ?_
        refine xVi ⟨hx, hb, hml, hown, hts⟩ (kX12_owesNow l N0 G _ _ V1 A1 hM1 S hR1 hL p1 0 hp1 (by omega)) (cwV 2 hts gX12_mixOne_X12_owesNow rfl rfl rfl (by decide +kernel) ⟨Nat.le_of_ble_eq_true rfl, Nat.le_of_ble_eq_true rfl⟩) hG hN hw hS (ci := 12) hM1.1 rfl rfl hl.1 rfl (Nat.le_of_ble_eq_true rfl) dX12_mixOne_29 ⟨Nat.le_of_ble_eq_true rfl, Nat.le_of_ble_eq_true rfl⟩ (fun r29 w29 H locs hp29 hw hS => ?_)
        obtain ⟨rfl, rfl⟩ := hp29
        refine lv_i2l hx hb dX12_mixOne_32 rfl ?_
        refine xVv ⟨hx, hb, hml, hown, hts⟩ (kX12_mix l N0 G _ _ V1 A1 hM1 _ _ h361) (cwV 1 hts gX12_mixOne_X12_mix rfl rfl rfl (by decide +kernel) ⟨Nat.le_of_ble_eq_true rfl, Nat.le_of_ble_eq_true rfl⟩) hG hN hw hS (ci := 12) hM1.1 rfl rfl hl.1 rfl (Nat.le_of_ble_eq_true rfl) dX12_mixOne_33 ⟨Nat.le_of_ble_eq_true rfl, Nat.le_of_ble_eq_true rfl⟩ (fun r33 w33 H locs hp33 hw hS => ?_)
        obtain rfl := hp33
        have hMa := hM1.put (k := 36) (.long (mx (mxs (oneV S p1) h 6) (oweV S p1 0))) (by decide)
        have hRa := rm_36 (x := .long (mx (mxs (oneV S p1) h 6) (oweV S p1 0))) hR1
        have h36a : vu V1 36 (.long (mx (mxs (oneV S p1) h 6) (oweV S p1 0))) 36 = .long (mx (mxs (oneV S p1) h 6) (oweV S p1 0)) := vu_eq _ _ _
        refine xaload_n hx hb dX12_mixOne_36 hl rfl ?_
        refine xaload_n hx hb dX12_mixOne_37 hl rfl ?_
        refine xiload_n hx hb dX12_mixOne_38 hl rfl ?_
        refine lv_iconst (v := nI 1) hx hb dX12_mixOne_39 (by decide) ?_
        refine xVi ⟨hx, hb, hml, hown, hts⟩ (kX12_owesNow l N0 G _ _ _ A1 hMa S hRa hL p1 1 hp1 (by omega)) (cwV 2 hts gX12_mixOne_X12_owesNow rfl rfl rfl (by decide +kernel) ⟨Nat.le_of_ble_eq_true rfl, Nat.le_of_ble_eq_true rfl⟩) hG hN hw hS (ci := 12) hMa.1 rfl rfl hl.1 rfl (Nat.le_of_ble_eq_true rfl) dX12_mixOne_40 ⟨Nat.le_of_ble_eq_true rfl, Nat.le_of_ble_eq_true rfl⟩ (fun r40 w40 H locs hp40 hw hS => ?_)
        obtain ⟨rfl, rfl⟩ := hp40
        refine lv_i2l hx hb dX12_mixOne_43 rfl ?_
        refine xVv ⟨hx, hb, hml, hown, hts⟩ (kX12_mix l N0 G _ _ (vu V1 36 (.long (mx (mxs (oneV S p1) h 6) (oweV S p1 0)))) A1 hMa _ _ h36a) (cwV 1 hts gX12_mixOne_X12_mix rfl rfl rfl (by decide +kernel) ⟨Nat.le_of_ble_eq_true rfl, Nat.le_of_ble_eq_true rfl⟩) hG hN hw hS (ci := 12) hMa.1 rfl rfl hl.1 rfl (Nat.le_of_ble_eq_true rfl) dX12_mixOne_44 ⟨Nat.le_of_ble_eq_true rfl, Nat.le_of_ble_eq_true rfl⟩ (fun r44 w44 H locs hp44 hw hS => ?_)
        obtain rfl := hp44
        have hMb := hMa.put (k := 36) (.long (mx (mx (mxs (oneV S p1) h 6) (oweV S p1 0)) (oweV S p1 1))) (by decide)
        have hRb := rm_36 (x := .long (mx (mx (mxs (oneV S p1) h 6) (oweV S p1 0)) (oweV S p1 1))) hRa
        have h36b : vu (vu V1 36 (.long (mx (mxs (oneV S p1) h 6) (oweV S p1 0)))) 36 (.long (mx (mx (mxs (oneV S p1) h 6) (oweV S p1 0)) (oweV S p1 1))) 36 = .long (mx (mx (mxs (oneV S p1) h 6) (oweV S p1 0)) (oweV S p1 1)) := vu_eq _ _ _
        refine xaload_n hx hb dX12_mixOne_47 hl rfl ?_
        refine xaload_n hx hb dX12_mixOne_48 hl rfl ?_
        refine xiload_n hx hb dX12_mixOne_49 hl rfl ?_
        refine lv_iconst (v := nI 2) hx hb dX12_mixOne_50 (by decide) ?_
        refine lv_iconst (v := nI 0) hx hb dX12_mixOne_51 (by decide) ?_
        refine xVi ⟨hx, hb, hml, hown, hts⟩ (kX12_handsNow l N0 G _ _ _ A1 hMb S hRb hL p1 hp1 (hpa p1 hp1) hhd 2 (by omega) 0 (by omega)) (cwV 3 hts gX12_mixOne_X12_handsNow rfl rfl rfl (by decide +kernel) ⟨Nat.le_of_ble_eq_true rfl, Nat.le_of_ble_eq_true rfl⟩) hG hN hw hS (ci := 12) hMb.1 rfl rfl hl.1 rfl (Nat.le_of_ble_eq_true rfl) dX12_mixOne_52 ⟨Nat.le_of_ble_eq_true rfl, Nat.le_of_ble_eq_true rfl⟩ (fun r52 w52 H locs hp52 hw hS => ?_)
        obtain ⟨rfl, V5, A5, hV5, hA5, hM5, hO5⟩ := hp52
        have hR5 := rm_h hRb hV5 hA5
        have h365 : V5 36 = .long (mx (mx (mxs (oneV S p1) h 6) (oweV S p1 0)) (oweV S p1 1)) := (hV5 36 (by decide) (by decide) (by decide)).trans h36b
        refine lv_i2l hx hb dX12_mixOne_55 rfl ?_
        refine xVv ⟨hx, hb, hml, hown, hts⟩ (kX12_mix l N0 G _ _ V5 A5 hM5 _ _ h365) (cwV 1 hts gX12_mixOne_X12_mix rfl rfl rfl (by decide +kernel) ⟨Nat.le_of_ble_eq_true rfl, Nat.le_of_ble_eq_true rfl⟩) hG hN hw hS (ci := 12) hM5.1 rfl rfl hl.1 rfl (Nat.le_of_ble_eq_true rfl) dX12_mixOne_56 ⟨Nat.le_of_ble_eq_true rfl, Nat.le_of_ble_eq_true rfl⟩ (fun r56 w56 H locs hp56 hw hS => ?_)
        obtain rfl := hp56
        have hMc := hM5.put (k := 36) (.long (mx (mx (mx (mxs (oneV S p1) h 6) (oweV S p1 0)) (oweV S p1 1)) (hndV S p1 2 0))) (by decide)
        have hRc := rm_36 (x := .long (mx (mx (mx (mxs (oneV S p1) h 6) (oweV S p1 0)) (oweV S p1 1)) (hndV S p1 2 0))) hR5
        have h36c : vu V5 36 (.long (mx (mx (mx (mxs (oneV S p1) h 6) (oweV S p1 0)) (oweV S p1 1)) (hndV S p1 2 0))) 36 = .long (mx (mx (mx (mxs (oneV S p1) h 6) (oweV S p1 0)) (oweV S p1 1)) (hndV S p1 2 0)) := vu_eq _ _ _
        refine xaload_n hx hb dX12_mixOne_59 hl rfl ?_
        refine xaload_n hx hb dX12_mixOne_60 hl rfl ?_
        refine xiload_n hx hb dX12_mixOne_61 hl rfl ?_
        refine lv_iconst (v := nI 2) hx hb dX12_mixOne_62 (by decide) ?_
        refine lv_iconst (v := nI 1) hx hb dX12_mixOne_63 (by decide) ?_
        refine xVi ⟨hx, hb, hml, hown, hts⟩ (kX12_handsNow l N0 G _ _ _ A5 hMc S hRc hL p1 hp1 (hpa p1 hp1) hhd 2 (by omega) 1 (by omega)) (cwV 3 hts gX12_mixOne_X12_handsNow rfl rfl rfl (by decide +kernel) ⟨Nat.le_of_ble_eq_true rfl, Nat.le_of_ble_eq_true rfl⟩) hG hN hw hS (ci := 12) hMc.1 rfl rfl hl.1 rfl (Nat.le_of_ble_eq_true rfl) dX12_mixOne_64 ⟨Nat.le_of_ble_eq_true rfl, Nat.le_of_ble_eq_true rfl⟩ (fun r64 w64 H locs hp64 hw hS => ?_)
        obtain ⟨rfl, V6, A6, hV6, hA6, hM6, hO6⟩ := hp64
        have hR6 := rm_h hRc hV6 hA6
        have h366 : V6 36 = .long (mx (mx (mx (mxs (oneV S p1) h 6) (oweV S p1 0)) (oweV S p1 1)) (hndV S p1 2 0)) := (hV6 36 (by decide) (by decide) (by decide)).trans h36c
        refine lv_i2l hx hb dX12_mixOne_67 rfl ?_
        refine xVv ⟨hx, hb, hml, hown, hts⟩ (kX12_mix l N0 G _ _ V6 A6 hM6 _ _ h366) (cwV 1 hts gX12_mixOne_X12_mix rfl rfl rfl (by decide +kernel) ⟨Nat.le_of_ble_eq_true rfl, Nat.le_of_ble_eq_true rfl⟩) hG hN hw hS (ci := 12) hM6.1 rfl rfl hl.1 rfl (Nat.le_of_ble_eq_true rfl) dX12_mixOne_68 ⟨Nat.le_of_ble_eq_true rfl, Nat.le_of_ble_eq_true rfl⟩ (fun r68 w68 H locs hp68 hw hS => ?_)
        obtain rfl := hp68
        have hMd := hM6.put (k := 36) (.long (mx (mx (mx (mx (mxs (oneV S p1) h 6) (oweV S p1 0)) (oweV S p1 1)) (hndV S p1 2 0)) (hndV S p1 2 1))) (by decide)
        have hRd := rm_36 (x := .long (mx (mx (mx (mx (mxs (oneV S p1) h 6) (oweV S p1 0)) (oweV S p1 1)) (hndV S p1 2 0)) (hndV S p1 2 1))) hR6
        have h36d : vu V6 36 (.long (mx (mx (mx (mx (mxs (oneV S p1) h 6) (oweV S p1 0)) (oweV S p1 1)) (hndV S p1 2 0)) (hndV S p1 2 1))) 36 = .long (mx (mx (mx (mx (mxs (oneV S p1) h 6) (oweV S p1 0)) (oweV S p1 1)) (hndV S p1 2 0)) (hndV S p1 2 1)) := vu_eq _ _ _
        refine xaload_n hx hb dX12_mixOne_71 hl rfl ?_
        refine xaload_n hx hb dX12_mixOne_72 hl rfl ?_
        refine xiload_n hx hb dX12_mixOne_73 hl rfl ?_
        refine lv_iconst (v := nI 2) hx hb dX12_mixOne_74 (by decide) ?_
        refine xVi ⟨hx, hb, hml, hown, hts⟩ (kX12_askNow l N0 G _ _ _ A6 hMd S hRd hL p1 hp1 (hpa p1 hp1) hhd 2 (by omega)) (cwV 2 hts gX12_mixOne_X12_askNow rfl rfl rfl (by decide +kernel) ⟨Nat.le_of_ble_eq_true rfl, Nat.le_of_ble_eq_true rfl⟩) hG hN hw hS (ci := 12) hMd.1 rfl rfl hl.1 rfl (Nat.le_of_ble_eq_true rfl) dX12_mixOne_75 ⟨Nat.le_of_ble_eq_true rfl, Nat.le_of_ble_eq_true rfl⟩ (fun r75 w75 H locs hp75 hw hS => ?_)
        obtain ⟨rfl, V7, A7, hV7, hA7, hM7, hO7⟩ := hp75
        have hR7 := rm_h hRd hV7 hA7
        have h367 : V7 36 = .long (mx (mx (mx (mx (mxs (oneV S p1) h 6) (oweV S p1 0)) (oweV S p1 1)) (hndV S p1 2 0)) (hndV S p1 2 1)) := (hV7 36 (by decide) (by decide) (by decide)).trans h36d
        refine lv_i2l hx hb dX12_mixOne_78 rfl ?_
        refine xVv ⟨hx, hb, hml, hown, hts⟩ (kX12_mix l N0 G _ _ V7 A7 hM7 _ _ h367) (cwV 1 hts gX12_mixOne_X12_mix rfl rfl rfl (by decide +kernel) ⟨Nat.le_of_ble_eq_true rfl, Nat.le_of_ble_eq_true rfl⟩) hG hN hw hS (ci := 12) hM7.1 rfl rfl hl.1 rfl (Nat.le_of_ble_eq_true rfl) dX12_mixOne_79 ⟨Nat.le_of_ble_eq_true rfl, Nat.le_of_ble_eq_true rfl⟩ (fun r79 w79 H locs hp79 hw hS => ?_)
        obtain rfl := hp79
        have hMe := hM7.put (k := 36) (.long (mx (mx (mx (mx (mx (mxs (oneV S p1) h 6) (oweV S p1 0)) (oweV S p1 1)) (hndV S p1 2 0)) (hndV S p1 2 1)) (askV S p1 2))) (by decide)
        have hRe := rm_36 (x := .long (mx (mx (mx (mx (mx (mxs (oneV S p1) h 6) (oweV S p1 0)) (oweV S p1 1)) (hndV S p1 2 0)) (hndV S p1 2 1)) (askV S p1 2))) hR7
        have h36e : vu V7 36 (.long (mx (mx (mx (mx (mx (mxs (oneV S p1) h 6) (oweV S p1 0)) (oweV S p1 1)) (hndV S p1 2 0)) (hndV S p1 2 1)) (askV S p1 2))) 36 = .long (mx (mx (mx (mx (mx (mxs (oneV S p1) h 6) (oweV S p1 0)) (oweV S p1 1)) (hndV S p1 2 0)) (hndV S p1 2 1)) (askV S p1 2)) := vu_eq _ _ _
        exact xvret hx hb hr hlk hw hS dX12_mixOne_82 ⟨_, A7, hMe, hRe, h36e, (((((hO1.wu (by omega) (by omega)).wu (by omega) (by omega)).tr hO5 (Nat.le_refl _) (Nat.le_refl _)).wu (by omega) (by omega)).tr hO6 (Nat.le_refl _) (Nat.le_refl _)).wu (by omega) (by omega) |>.tr hO7 (Nat.le_refl _) (Nat.le_refl _) |>.wu (by omega) (by omega)⟩
      · skip
        refine xaload_n hx hb dX12_mixOne_8 hl rfl ?_
        refine xaload_n hx hb dX12_mixOne_9 hl rfl ?_
        refine xiload_n hx hb dX12_mixOne_10 hl rfl ?_
        refine xiload_n hx hb dX12_mixOne_11 hl rfl ?_
        refine xVi ⟨hx, hb, hml, hown, hts⟩ (kX12_oneNow l N0 G _ _ V1 A1 hM1 S hR1 hL hpa p1 k hp1 (by omega)) (cwV 2 hts gX12_mixOne_X12_oneNow rfl rfl rfl (by decide +kernel) ⟨Nat.le_of_ble_eq_true rfl, Nat.le_of_ble_eq_true rfl⟩) hG hN hw hS (ci := 12) hM1.1 rfl rfl hl.1 rfl (Nat.le_of_ble_eq_true rfl) dX12_mixOne_12 ⟨Nat.le_of_ble_eq_true rfl, Nat.le_of_ble_eq_true rfl⟩ (fun r12 w12 H locs hp12 hw hS => ?_)
        obtain ⟨rfl, A2, hM2, hR2, hO2⟩ := hp12
        refine lv_i2l hx hb dX12_mixOne_15 rfl ?_
        refine xVv ⟨hx, hb, hml, hown, hts⟩ (kX12_mix l N0 G _ _ V1 A2 hM2 _ _ h361) (cwV 1 hts gX12_mixOne_X12_mix rfl rfl rfl (by decide +kernel) ⟨Nat.le_of_ble_eq_true rfl, Nat.le_of_ble_eq_true rfl⟩) hG hN hw hS (ci := 12) hM2.1 rfl rfl hl.1 rfl (Nat.le_of_ble_eq_true rfl) dX12_mixOne_16 ⟨Nat.le_of_ble_eq_true rfl, Nat.le_of_ble_eq_true rfl⟩ (fun r16 w16 H locs hp16 hw hS => ?_)
        obtain rfl := hp16
        have hM3 := hM2.put (k := 36) (.long (mx (mxs (oneV S p1) h k) (oneV S p1 k))) (by decide)
        have hR3 := rm_36 (x := .long (mx (mxs (oneV S p1) h k) (oneV S p1 k))) hR2
        have h363 : vu V1 36 (.long (mx (mxs (oneV S p1) h k) (oneV S p1 k))) 36 = .long (mx (mxs (oneV S p1) h k) (oneV S p1 k)) := vu_eq _ _ _
        first | refine xiincN hx hb 1 dX12_mixOne_19 hl rfl (by decide) (by decide) rfl (fun ls hl => ?_) | refine xiinc hx hb dX12_mixOne_19 hl rfl rfl (by decide) rfl (fun ls hl => ?_)
        refine lv_goto (tgt := 2) hx hb dX12_mixOne_22 (by decide) ?_
        exact ih2 (k + 1) _ A2 _ _ _ _ (by omega) (by omega) hM3 hR3 h363 ((hO1.tr hO2 (Nat.le_refl _) (Nat.le_refl _)).wu (by omega) (by omega)) hw hS hl
  exact loop2 7 0 V A _ _ _ _ (by omega) (by omega) hM hR h36 Out.rf hw hS hl
set_option maxHeartbeats 4000000 in
set_option maxRecDepth 100000 in
theorem kX12_digest (l : Launch) (N0 : Nat) (G : XG) (w : Wd) (M0 : Nat) (V : Nat → Value) (A : Nat → Nat → Int32) (hM : MW G w M0 V A) (S : QS) (hR : RM S V A) (hL : WB S) (hpa : ∀ i, i < sn S → ∀ x ∈ sp S i, x < sn S) (hhd : ∀ q ∈ sh S, q.1 < sn S) (hbn : ∀ d, d < (sd S).length → bd (sd S) d < 2 ^ sn S) : XM l yX12_digest wsX12_digest (rmD 7) N0 G [.ref M0] w vL (fun r w1 => v_digest S = r ∧ (∃ V1 A1, MW G w1 M0 V1 A1 ∧ RM (S) V1 A1) ∧ Out w w1 M0 (M0 + 20)) 0 0 := by
  refine XM.of (cc := cX12_digest) (maxL := 3) (ret := (some .long)) (by decide) rfl (Nat.le_of_ble_eq_true rfl) ?_
  intro p e s m below meth c hx hb hr hlk hin0 hml hown hts hN hw hG hS ls hl
  have hown : s.vm.findClass RX12 = some m.cls := hown
  have hiX12 : ∀ x ∈ u_ws RX12 TX12 37, x ∈ wsX12_digest := by decide +kernel
  have hlnk0 := hts (.constantLong RX12 257 (967)) (by decide +kernel)
  have hlnk1 := hts (.fieldLink RX12 250 "LentQuillModel" "h" "J") (by decide +kernel)
  have hlnk2 := hts (.fieldLink RX12 94 "LentQuillModel" "people" "I") (by decide +kernel)
  have hlnk3 := hts (.fieldLink RX12 103 "LentQuillModel" "deeds" "I") (by decide +kernel)
  have hlnk4 := hts (.fieldLink RX12 72 "LentQuillModel" "pageLength" "I") (by decide +kernel)
  have hlnk5 := hts (.fieldLink RX12 34 "LentQuillModel" "page" "[B") (by decide +kernel)
  have hl : lh ls 3 [some (.ref M0), none, none] := hl
  obtain ⟨hm0, ⟨hv3, hv4, hv5, hv6, hv8, hv9, hv11, hv12, hv15, hv18, hv19, hv20, hv24, hv30, hv31, hv32, hv33, hv34, hv35⟩, ha1, ha2, ha3, ha4, ha5, ha6, ha7, ha8, ha9, ha10, ha11, ha12, ha13, ha14, ha15, ha16, ha17, ha18, ha19⟩ := id hM
  obtain ⟨ht, hn, hlm, hdn, hhn, has, hpl, hkw, hRB, hpg, hkp⟩ := id hR
  obtain ⟨hn5, hl5, hkd, hsp, hd6, hdw, hh6, hg18, hgr, hIm⟩ := id hL
  refine xaload_n hx hb dX12_digest_0 hl rfl ?_
  refine lv_ldc2 hx hb hown hlnk0 dX12_digest_1 ?_
  refine xtopl (y := lN 967) (by decide) ?_
  refine xputM (ty := .long) hx hb hts hiX12 hown hG hw hS (by repeat first | assumption | exact wu_eq _ _ _ | refine wu_ne (by omega) ?_) 36 (by decide) hlnk1 rfl (by decide +kernel) rfl rfl dX12_digest_4 (fun H locs hzz hw hS => ?_)
  refine lv_iconst (v := nI 0) hx hb dX12_digest_7 (by decide) ?_
  refine xistore_n hx hb dX12_digest_8 hl (by decide) rfl (fun ls hl => ?_)
  have loop9 : ∀ (nf : Nat) (i : Nat) (V1 : Nat → Value) (A1 : Nat → Nat → Int32) (w1 : Wd) (H : Heap) (locs : List Loc) (ls : Array Slot), sn S - i < nf → (i ≤ sn S) → (MW G w1 M0 V1 A1) → (RM S V1 A1) → (V1 36 = .long (digPs S 967 i)) → (Out w w1 M0 (M0 + 20)) → PW N0 G w1 H → va_S (fun q => N0 ≤ q) s.heap H locs → lh ls 3 [some (.ref M0), some (.int (nI i)), none] → W p l e (rmD 7) s m ([.ref M0] : List Value).toArray below meth c H locs 0 0 (MQ below (XQ N0 G vL (fun r w1 => v_digest S = r ∧ (∃ V1 A1, MW G w1 M0 V1 A1 ∧ RM (S) V1 A1) ∧ Out w w1 M0 (M0 + 20))) ([.ref M0] : List Value).toArray s 0 0 (fun q => N0 ≤ q)) (F0 m 9 ls []) := by
    intro nf
    induction nf with
    | zero => intros; omega
    | succ nf ih9 =>
      intro i V1 A1 w1 H locs ls hnf hi hM1 hR1 h361 hO1 hw hS hl
      obtain ⟨hm0z, ⟨hv3z, hv4z, hv5z, hv6z, hv8z, hv9z, hv11z, hv12z, hv15z, hv18z, hv19z, hv20z, hv24z, hv30z, hv31z, hv32z, hv33z, hv34z, hv35z⟩, ha1z, ha2z, ha3z, ha4z, ha5z, ha6z, ha7z, ha8z, ha9z, ha10z, ha11z, ha12z, ha13z, ha14z, ha15z, ha16z, ha17z, ha18z, ha19z⟩ := id hM1
      have h1n := hR1.2.1
      have h1d := hR1.2.2.2.1
      have h1g := hR1.2.2.2.2.2.2.1
      refine xiload_n hx hb dX12_digest_9 hl rfl ?_
      refine xaload_n hx hb dX12_digest_10 hl rfl ?_
      refine xgetM hx hb hts hiX12 hown hG hw (by repeat first | assumption | exact wu_eq _ _ _ | refine wu_ne (by omega) ?_) 1 (by decide) hlnk2 (by repeat first | assumption | exact vu_eq _ _ _ | refine vu_ne (by decide) ?_) dX12_digest_11 ?_
      first | refine xcmp_ge (tgt := 28) hx hb dX12_digest_14 (by decide) (by omega) (by omega) (fun c14 => ?_) (fun c14 => ?_) | refine lv_icmp_ge (tgt := 28) hx hb dX12_digest_14 (by decide) (fun c14 => ?_) (fun c14 => ?_)
      · skip
        obtain rfl : i = sn S := by omega
        refine lv_iconst (v := nI 0) hx hb dX12_digest_28 (by decide) ?_
        refine xistore_n hx hb dX12_digest_29 hl (by decide) rfl (fun ls hl => ?_)
        have loop30 : ∀ (nf : Nat) (j : Nat) (u : Option Value) (V1 : Nat → Value) (A1 : Nat → Nat → Int32) (w1 : Wd) (H : Heap) (locs : List Loc) (ls : Array Slot), (sd S).length - j < nf → (j ≤ (sd S).length) → (MW G w1 M0 V1 A1) → (RM S V1 A1) → (V1 36 = .long (digDs S (digPs S 967 (sn S)) j)) → (Out w w1 M0 (M0 + 20)) → PW N0 G w1 H → va_S (fun q => N0 ≤ q) s.heap H locs → lh ls 3 [some (.ref M0), some (.int (nI j)), u] → W p l e (rmD 7) s m ([.ref M0] : List Value).toArray below meth c H locs 0 0 (MQ below (XQ N0 G vL (fun r w1 => v_digest S = r ∧ (∃ V1 A1, MW G w1 M0 V1 A1 ∧ RM (S) V1 A1) ∧ Out w w1 M0 (M0 + 20))) ([.ref M0] : List Value).toArray s 0 0 (fun q => N0 ≤ q)) (F0 m 30 ls []) := by
          intro nf
          induction nf with
          | zero => intros; omega
          | succ nf ih30 =>
            intro j u V1 A1 w1 H locs ls hnf hj hM1 hR1 h361 hO1 hw hS hl
            obtain ⟨hm0z, ⟨hv3z, hv4z, hv5z, hv6z, hv8z, hv9z, hv11z, hv12z, hv15z, hv18z, hv19z, hv20z, hv24z, hv30z, hv31z, hv32z, hv33z, hv34z, hv35z⟩, ha1z, ha2z, ha3z, ha4z, ha5z, ha6z, ha7z, ha8z, ha9z, ha10z, ha11z, ha12z, ha13z, ha14z, ha15z, ha16z, ha17z, ha18z, ha19z⟩ := id hM1
            have h1n := hR1.2.1
            have h1d := hR1.2.2.2.1
            have h1g := hR1.2.2.2.2.2.2.1
            refine xiload_n hx hb dX12_digest_30 hl rfl ?_
            refine xaload_n hx hb dX12_digest_31 hl rfl ?_
            refine xgetM hx hb hts hiX12 hown hG hw (by repeat first | assumption | exact wu_eq _ _ _ | refine wu_ne (by omega) ?_) 7 (by decide) hlnk3 (by repeat first | assumption | exact vu_eq _ _ _ | refine vu_ne (by decide) ?_) dX12_digest_32 ?_
            first | refine xcmp_ge (tgt := 68) hx hb dX12_digest_35 (by decide) (by omega) (by omega) (fun c35 => ?_) (fun c35 => ?_) | refine lv_icmp_ge (tgt := 68) hx hb dX12_digest_35 (by decide) (fun c35 => ?_) (fun c35 => ?_)
            · skip
              obtain rfl : j = (sd S).length := by omega
              refine xaload_n hx hb dX12_digest_68 hl rfl ?_
              refine xgetM hx hb hts hiX12 hown hG hw (by repeat first | assumption | exact wu_eq _ _ _ | refine wu_ne (by omega) ?_) 1 (by decide) hlnk2 (by repeat first | assumption | exact vu_eq _ _ _ | refine vu_ne (by decide) ?_) dX12_digest_69 ?_
              refine xif_le (tgt := 95) hx hb dX12_digest_72 (by decide) (by omega) (fun c72 => ?_) (fun c72 => ?_)
              · skip
                have d72 : sn S = 0 := by omega
                have h2e := (dg2 S).1 d72
                obtain ⟨V8, w8, hw8, hM8, hR8, h368, hO8⟩ : ∃ V8 w8, PW N0 G w8 H ∧ MW G w8 M0 V8 A1 ∧ RM S V8 A1 ∧ V8 36 = .long (dg2v S) ∧ Out w w8 M0 (M0 + 20) := by
                  first
                    | exact ⟨_, _, hw, hMb, hRb, by rw [h36b, h2e], (hO1.wu (by omega) (by omega)).wu (by omega) (by omega)⟩
                    | exact ⟨_, _, hw, hM1, hR1, by rw [h361, h2e], hO1⟩
                replace hw := hw8
                refine lv_iconst (v := nI 0) hx hb dX12_digest_95 (by decide) ?_
                refine xistore_n hx hb dX12_digest_96 hl (by decide) rfl (fun ls hl => ?_)
                have loop97 : ∀ (nf : Nat) (a : Nat) (V1 : Nat → Value) (A1 : Nat → Nat → Int32) (w1 : Wd) (H : Heap) (locs : List Loc) (ls : Array Slot), (sg S).length - a < nf → (a ≤ (sg S).length) → (MW G w1 M0 V1 A1) → (RM S V1 A1) → (V1 36 = .long (mxs (fun i => nI (pgc (sg S) i)) (dg2v S) a)) → (Out w w1 M0 (M0 + 20)) → PW N0 G w1 H → va_S (fun q => N0 ≤ q) s.heap H locs → lh ls 3 [some (.ref M0), some (.int (nI a)), u] → W p l e (rmD 7) s m ([.ref M0] : List Value).toArray below meth c H locs 0 0 (MQ below (XQ N0 G vL (fun r w1 => v_digest S = r ∧ (∃ V1 A1, MW G w1 M0 V1 A1 ∧ RM (S) V1 A1) ∧ Out w w1 M0 (M0 + 20))) ([.ref M0] : List Value).toArray s 0 0 (fun q => N0 ≤ q)) (F0 m 97 ls []) := by
                  intro nf
                  induction nf with
                  | zero => intros; omega
                  | succ nf ih97 =>
                    intro a V1 A1 w1 H locs ls hnf ha hM1 hR1 h361 hO1 hw hS hl
                    obtain ⟨hm0z, ⟨hv3z, hv4z, hv5z, hv6z, hv8z, hv9z, hv11z, hv12z, hv15z, hv18z, hv19z, hv20z, hv24z, hv30z, hv31z, hv32z, hv33z, hv34z, hv35z⟩, ha1z, ha2z, ha3z, ha4z, ha5z, ha6z, ha7z, ha8z, ha9z, ha10z, ha11z, ha12z, ha13z, ha14z, ha15z, ha16z, ha17z, ha18z, ha19z⟩ := id hM1
                    have h1n := hR1.2.1
                    have h1d := hR1.2.2.2.1
                    have h1g := hR1.2.2.2.2.2.2.1
                    refine xiload_n hx hb dX12_digest_97 hl rfl ?_
                    refine xaload_n hx hb dX12_digest_98 hl rfl ?_
                    refine xgetM hx hb hts hiX12 hown hG hw (by repeat first | assumption | exact wu_eq _ _ _ | refine wu_ne (by omega) ?_) 14 (by decide) hlnk4 (by repeat first | assumption | exact vu_eq _ _ _ | refine vu_ne (by decide) ?_) dX12_digest_99 ?_
                    first | refine xcmp_ge (tgt := 122) hx hb dX12_digest_102 (by decide) (by omega) (by omega) (fun c102 => ?_) (fun c102 => ?_) | refine lv_icmp_ge (tgt := 122) hx hb dX12_digest_102 (by decide) (fun c102 => ?_) (fun c102 => ?_)
                    · skip
                      obtain rfl : a = (sg S).length := by omega
                      refine lv_iconst (v := nI 0) hx hb dX12_digest_122 (by decide) ?_
                      refine xistore_n hx hb dX12_digest_123 hl (by decide) rfl (fun ls hl => ?_)
                      have loop124 : ∀ (nf : Nat) (b : Nat) (V1 : Nat → Value) (A1 : Nat → Nat → Int32) (w1 : Wd) (H : Heap) (locs : List Loc) (ls : Array Slot), 9 - b < nf → (b ≤ 9) → (MW G w1 M0 V1 A1) → (RM S V1 A1) → (V1 36 = .long (mxs (cntV S) (mxs (fun i => nI (pgc (sg S) i)) (dg2v S) (sg S).length) b)) → (Out w w1 M0 (M0 + 20)) → PW N0 G w1 H → va_S (fun q => N0 ≤ q) s.heap H locs → lh ls 3 [some (.ref M0), some (.int (nI b)), u] → W p l e (rmD 7) s m ([.ref M0] : List Value).toArray below meth c H locs 0 0 (MQ below (XQ N0 G vL (fun r w1 => v_digest S = r ∧ (∃ V1 A1, MW G w1 M0 V1 A1 ∧ RM (S) V1 A1) ∧ Out w w1 M0 (M0 + 20))) ([.ref M0] : List Value).toArray s 0 0 (fun q => N0 ≤ q)) (F0 m 124 ls []) := by
                        intro nf
                        induction nf with
                        | zero => intros; omega
                        | succ nf ih124 =>
                          intro b V1 A1 w1 H locs ls hnf hb9 hM1 hR1 h361 hO1 hw hS hl
                          obtain ⟨hm0z, ⟨hv3z, hv4z, hv5z, hv6z, hv8z, hv9z, hv11z, hv12z, hv15z, hv18z, hv19z, hv20z, hv24z, hv30z, hv31z, hv32z, hv33z, hv34z, hv35z⟩, ha1z, ha2z, ha3z, ha4z, ha5z, ha6z, ha7z, ha8z, ha9z, ha10z, ha11z, ha12z, ha13z, ha14z, ha15z, ha16z, ha17z, ha18z, ha19z⟩ := id hM1
                          have h1n := hR1.2.1
                          have h1d := hR1.2.2.2.1
                          have h1g := hR1.2.2.2.2.2.2.1
                          refine xiload_n hx hb dX12_digest_124 hl rfl ?_
                          refine lv_bipush (v := nI 9) hx hb dX12_digest_125 (by decide) ?_
                          first | refine xcmp_ge (tgt := 146) hx hb dX12_digest_127 (by decide) (by omega) (by omega) (fun c127 => ?_) (fun c127 => ?_) | refine lv_icmp_ge (tgt := 146) hx hb dX12_digest_127 (by decide) (fun c127 => ?_) (fun c127 => ?_)
                          · skip
                            obtain rfl : b = 9 := by omega
                            refine xaload_n hx hb dX12_digest_146 hl rfl ?_
                            refine xgetM hx hb hts hiX12 hown hG hw (by repeat first | assumption | exact wu_eq _ _ _ | refine wu_ne (by omega) ?_) 36 (by decide) hlnk1 (by repeat first | assumption | exact vu_eq _ _ _ | refine vu_ne (by decide) ?_) dX12_digest_147 ?_
                            exact xlret hx hb hr hlk hw hS dX12_digest_150 ⟨rfl, ⟨V1, A1, hM1, hR1⟩, hO1⟩
                          · skip
                            refine xaload_n hx hb dX12_digest_130 hl rfl ?_
                            refine xaload_n hx hb dX12_digest_131 hl rfl ?_
                            refine xiload_n hx hb dX12_digest_132 hl rfl ?_
                            refine xVi ⟨hx, hb, hml, hown, hts⟩ (kX12_howMany l N0 G _ _ V1 A1 hM1 S hR1 hL _) (cwV 1 hts gX12_digest_X12_howMany rfl rfl rfl (by decide +kernel) ⟨Nat.le_of_ble_eq_true rfl, Nat.le_of_ble_eq_true rfl⟩) hG hN hw hS (ci := 12) hM1.1 rfl rfl hl.1 rfl (Nat.le_of_ble_eq_true rfl) dX12_digest_133 ⟨Nat.le_of_ble_eq_true rfl, Nat.le_of_ble_eq_true rfl⟩ (fun r133 w133 H locs hp133 hw hS => ?_)
                            obtain ⟨rfl, rfl⟩ := hp133
                            refine xtop (y := cntV S b) (by rw [v_count, onR_in (by omega) (by omega)]) ?_
                            refine lv_i2l hx hb dX12_digest_136 rfl ?_
                            refine xVv ⟨hx, hb, hml, hown, hts⟩ (kX12_mix l N0 G _ _ V1 A1 hM1 _ _ h361) (cwV 1 hts gX12_digest_X12_mix rfl rfl rfl (by decide +kernel) ⟨Nat.le_of_ble_eq_true rfl, Nat.le_of_ble_eq_true rfl⟩) hG hN hw hS (ci := 12) hM1.1 rfl rfl hl.1 rfl (Nat.le_of_ble_eq_true rfl) dX12_digest_137 ⟨Nat.le_of_ble_eq_true rfl, Nat.le_of_ble_eq_true rfl⟩ (fun r137 w137 H locs hp137 hw hS => ?_)
                            obtain rfl := hp137
                            have hM3 := hM1.put (k := 36) (.long (mx (mxs (cntV S) (mxs (fun i => nI (pgc (sg S) i)) (dg2v S) (sg S).length) b) (cntV S b))) (by decide)
                            have hR3 := rm_36 (x := .long (mx (mxs (cntV S) (mxs (fun i => nI (pgc (sg S) i)) (dg2v S) (sg S).length) b) (cntV S b))) hR1
                            have h363 : vu V1 36 (.long (mx (mxs (cntV S) (mxs (fun i => nI (pgc (sg S) i)) (dg2v S) (sg S).length) b) (cntV S b))) 36 = .long (mx (mxs (cntV S) (mxs (fun i => nI (pgc (sg S) i)) (dg2v S) (sg S).length) b) (cntV S b)) := vu_eq _ _ _
                            first | refine xiincN hx hb 1 dX12_digest_140 hl rfl (by decide) (by decide) rfl (fun ls hl => ?_) | refine xiinc hx hb dX12_digest_140 hl rfl rfl (by decide) rfl (fun ls hl => ?_)
                            refine lv_goto (tgt := 124) hx hb dX12_digest_143 (by decide) ?_
                            exact ih124 (b + 1) _ A1 _ _ _ _ (by omega) (by omega) hM3 hR3 h363 (hO1.wu (by omega) (by omega)) hw hS hl
                      exact loop124 10 0 V1 A1 _ _ _ _ (by omega) (by omega) hM1 hR1 h361 hO1 hw hS hl
                    · skip
                      refine xaload_n hx hb dX12_digest_105 hl rfl ?_
                      refine xaload_n hx hb dX12_digest_106 hl rfl ?_
                      refine xgetM hx hb hts hiX12 hown hG hw (by repeat first | assumption | exact wu_eq _ _ _ | refine wu_ne (by omega) ?_) 15 (by decide) hlnk5 (by repeat first | assumption | exact vu_eq _ _ _ | refine vu_ne (by decide) ?_) dX12_digest_107 ?_
                      refine xiload_n hx hb dX12_digest_110 hl rfl ?_
                      refine xbald hx hb hG hw (by repeat first | assumption | exact wu_eq _ _ _ | refine wu_ne (by omega) ?_) (by omega) (by omega) dX12_digest_111 ?_
                      refine xtop (y := nI (pgc (sg S) a)) (hR1.2.2.2.2.2.2.2.2.2.1 a (by omega)) ?_
                      refine lv_i2l hx hb dX12_digest_112 rfl ?_
                      refine xVv ⟨hx, hb, hml, hown, hts⟩ (kX12_mix l N0 G _ _ V1 A1 hM1 _ _ h361) (cwV 1 hts gX12_digest_X12_mix rfl rfl rfl (by decide +kernel) ⟨Nat.le_of_ble_eq_true rfl, Nat.le_of_ble_eq_true rfl⟩) hG hN hw hS (ci := 12) hM1.1 rfl rfl hl.1 rfl (Nat.le_of_ble_eq_true rfl) dX12_digest_113 ⟨Nat.le_of_ble_eq_true rfl, Nat.le_of_ble_eq_true rfl⟩ (fun r113 w113 H locs hp113 hw hS => ?_)
                      obtain rfl := hp113
                      have hM3 := hM1.put (k := 36) (.long (mx (mxs (fun i => nI (pgc (sg S) i)) (dg2v S) a) (nI (pgc (sg S) a)))) (by decide)
                      have hR3 := rm_36 (x := .long (mx (mxs (fun i => nI (pgc (sg S) i)) (dg2v S) a) (nI (pgc (sg S) a)))) hR1
                      have h363 : vu V1 36 (.long (mx (mxs (fun i => nI (pgc (sg S) i)) (dg2v S) a) (nI (pgc (sg S) a)))) 36 = .long (mx (mxs (fun i => nI (pgc (sg S) i)) (dg2v S) a) (nI (pgc (sg S) a))) := vu_eq _ _ _
                      first | refine xiincN hx hb 1 dX12_digest_116 hl rfl (by decide) (by decide) rfl (fun ls hl => ?_) | refine xiinc hx hb dX12_digest_116 hl rfl rfl (by decide) rfl (fun ls hl => ?_)
                      refine lv_goto (tgt := 97) hx hb dX12_digest_119 (by decide) ?_
                      exact ih97 (a + 1) _ A1 _ _ _ _ (by omega) (by omega) hM3 hR3 h363 (hO1.wu (by omega) (by omega)) hw hS hl
                exact loop97 ((sg S).length + 1) 0 V8 A1 _ _ _ _ (by omega) (by omega) hM8 hR8 h368 hO8 hw hS hl
              · skip
                have d72 : ¬ sn S = 0 := by omega
                have h2e := (dg2 S).2 d72
                refine xaload_n hx hb dX12_digest_75 hl rfl ?_
                refine xaload_n hx hb dX12_digest_76 hl rfl ?_
                refine lv_iconst (v := nI 0) hx hb dX12_digest_77 (by decide) ?_
                refine xVi ⟨hx, hb, hml, hown, hts⟩ (kX12_findNow l N0 G _ _ V1 A1 hM1 S hR1 hL hbn 0 (by omega)) (cwV 1 hts gX12_digest_X12_findNow rfl rfl rfl (by decide +kernel) ⟨Nat.le_of_ble_eq_true rfl, Nat.le_of_ble_eq_true rfl⟩) hG hN hw hS (ci := 12) hM1.1 rfl rfl hl.1 rfl (Nat.le_of_ble_eq_true rfl) dX12_digest_78 ⟨Nat.le_of_ble_eq_true rfl, Nat.le_of_ble_eq_true rfl⟩ (fun r78 w78 H locs hp78 hw hS => ?_)
                obtain ⟨rfl, rfl⟩ := hp78
                refine lv_i2l hx hb dX12_digest_81 rfl ?_
                refine xVv ⟨hx, hb, hml, hown, hts⟩ (kX12_mix l N0 G _ _ V1 A1 hM1 _ _ h361) (cwV 1 hts gX12_digest_X12_mix rfl rfl rfl (by decide +kernel) ⟨Nat.le_of_ble_eq_true rfl, Nat.le_of_ble_eq_true rfl⟩) hG hN hw hS (ci := 12) hM1.1 rfl rfl hl.1 rfl (Nat.le_of_ble_eq_true rfl) dX12_digest_82 ⟨Nat.le_of_ble_eq_true rfl, Nat.le_of_ble_eq_true rfl⟩ (fun r82 w82 H locs hp82 hw hS => ?_)
                obtain rfl := hp82
                have hMa := hM1.put (k := 36) (.long (mx (digDs S (digPs S 967 (sn S)) (sd S).length) (findV S 0))) (by decide)
                have hRa := rm_36 (x := .long (mx (digDs S (digPs S 967 (sn S)) (sd S).length) (findV S 0))) hR1
                have h36a : vu V1 36 (.long (mx (digDs S (digPs S 967 (sn S)) (sd S).length) (findV S 0))) 36 = .long (mx (digDs S (digPs S 967 (sn S)) (sd S).length) (findV S 0)) := vu_eq _ _ _
                refine xaload_n hx hb dX12_digest_85 hl rfl ?_
                refine xaload_n hx hb dX12_digest_86 hl rfl ?_
                refine lv_iconst (v := nI 1) hx hb dX12_digest_87 (by decide) ?_
                refine xVi ⟨hx, hb, hml, hown, hts⟩ (kX12_findNow l N0 G _ _ _ A1 hMa S hRa hL hbn 1 (by omega)) (cwV 1 hts gX12_digest_X12_findNow rfl rfl rfl (by decide +kernel) ⟨Nat.le_of_ble_eq_true rfl, Nat.le_of_ble_eq_true rfl⟩) hG hN hw hS (ci := 12) hMa.1 rfl rfl hl.1 rfl (Nat.le_of_ble_eq_true rfl) dX12_digest_88 ⟨Nat.le_of_ble_eq_true rfl, Nat.le_of_ble_eq_true rfl⟩ (fun r88 w88 H locs hp88 hw hS => ?_)
                obtain ⟨rfl, rfl⟩ := hp88
                refine lv_i2l hx hb dX12_digest_91 rfl ?_
                refine xVv ⟨hx, hb, hml, hown, hts⟩ (kX12_mix l N0 G _ _ (vu V1 36 (.long (mx (digDs S (digPs S 967 (sn S)) (sd S).length) (findV S 0)))) A1 hMa _ _ h36a) (cwV 1 hts gX12_digest_X12_mix rfl rfl rfl (by decide +kernel) ⟨Nat.le_of_ble_eq_true rfl, Nat.le_of_ble_eq_true rfl⟩) hG hN hw hS (ci := 12) hMa.1 rfl rfl hl.1 rfl (Nat.le_of_ble_eq_true rfl) dX12_digest_92 ⟨Nat.le_of_ble_eq_true rfl, Nat.le_of_ble_eq_true rfl⟩ (fun r92 w92 H locs hp92 hw hS => ?_)
                obtain rfl := hp92
                have hMb := hMa.put (k := 36) (.long (mx (mx (digDs S (digPs S 967 (sn S)) (sd S).length) (findV S 0)) (findV S 1))) (by decide)
                have hRb := rm_36 (x := .long (mx (mx (digDs S (digPs S 967 (sn S)) (sd S).length) (findV S 0)) (findV S 1))) hRa
                have h36b : vu (vu V1 36 (.long (mx (digDs S (digPs S 967 (sn S)) (sd S).length) (findV S 0)))) 36 (.long (mx (mx (digDs S (digPs S 967 (sn S)) (sd S).length) (findV S 0)) (findV S 1))) 36 = .long (mx (mx (digDs S (digPs S 967 (sn S)) (sd S).length) (findV S 0)) (findV S 1)) := vu_eq _ _ _
                obtain ⟨V8, w8, hw8, hM8, hR8, h368, hO8⟩ : ∃ V8 w8, PW N0 G w8 H ∧ MW G w8 M0 V8 A1 ∧ RM S V8 A1 ∧ V8 36 = .long (dg2v S) ∧ Out w w8 M0 (M0 + 20) := by
                  first
                    | exact ⟨_, _, hw, hMb, hRb, by rw [h36b, h2e], (hO1.wu (by omega) (by omega)).wu (by omega) (by omega)⟩
                    | exact ⟨_, _, hw, hM1, hR1, by rw [h361, h2e], hO1⟩
                replace hw := hw8
                refine lv_iconst (v := nI 0) hx hb dX12_digest_95 (by decide) ?_
                refine xistore_n hx hb dX12_digest_96 hl (by decide) rfl (fun ls hl => ?_)
                have loop97 : ∀ (nf : Nat) (a : Nat) (V1 : Nat → Value) (A1 : Nat → Nat → Int32) (w1 : Wd) (H : Heap) (locs : List Loc) (ls : Array Slot), (sg S).length - a < nf → (a ≤ (sg S).length) → (MW G w1 M0 V1 A1) → (RM S V1 A1) → (V1 36 = .long (mxs (fun i => nI (pgc (sg S) i)) (dg2v S) a)) → (Out w w1 M0 (M0 + 20)) → PW N0 G w1 H → va_S (fun q => N0 ≤ q) s.heap H locs → lh ls 3 [some (.ref M0), some (.int (nI a)), u] → W p l e (rmD 7) s m ([.ref M0] : List Value).toArray below meth c H locs 0 0 (MQ below (XQ N0 G vL (fun r w1 => v_digest S = r ∧ (∃ V1 A1, MW G w1 M0 V1 A1 ∧ RM (S) V1 A1) ∧ Out w w1 M0 (M0 + 20))) ([.ref M0] : List Value).toArray s 0 0 (fun q => N0 ≤ q)) (F0 m 97 ls []) := by
                  intro nf
                  induction nf with
                  | zero => intros; omega
                  | succ nf ih97 =>
                    intro a V1 A1 w1 H locs ls hnf ha hM1 hR1 h361 hO1 hw hS hl
                    obtain ⟨hm0z, ⟨hv3z, hv4z, hv5z, hv6z, hv8z, hv9z, hv11z, hv12z, hv15z, hv18z, hv19z, hv20z, hv24z, hv30z, hv31z, hv32z, hv33z, hv34z, hv35z⟩, ha1z, ha2z, ha3z, ha4z, ha5z, ha6z, ha7z, ha8z, ha9z, ha10z, ha11z, ha12z, ha13z, ha14z, ha15z, ha16z, ha17z, ha18z, ha19z⟩ := id hM1
                    have h1n := hR1.2.1
                    have h1d := hR1.2.2.2.1
                    have h1g := hR1.2.2.2.2.2.2.1
                    refine xiload_n hx hb dX12_digest_97 hl rfl ?_
                    refine xaload_n hx hb dX12_digest_98 hl rfl ?_
                    refine xgetM hx hb hts hiX12 hown hG hw (by repeat first | assumption | exact wu_eq _ _ _ | refine wu_ne (by omega) ?_) 14 (by decide) hlnk4 (by repeat first | assumption | exact vu_eq _ _ _ | refine vu_ne (by decide) ?_) dX12_digest_99 ?_
                    first | refine xcmp_ge (tgt := 122) hx hb dX12_digest_102 (by decide) (by omega) (by omega) (fun c102 => ?_) (fun c102 => ?_) | refine lv_icmp_ge (tgt := 122) hx hb dX12_digest_102 (by decide) (fun c102 => ?_) (fun c102 => ?_)
                    · skip
                      obtain rfl : a = (sg S).length := by omega
                      refine lv_iconst (v := nI 0) hx hb dX12_digest_122 (by decide) ?_
                      refine xistore_n hx hb dX12_digest_123 hl (by decide) rfl (fun ls hl => ?_)
                      have loop124 : ∀ (nf : Nat) (b : Nat) (V1 : Nat → Value) (A1 : Nat → Nat → Int32) (w1 : Wd) (H : Heap) (locs : List Loc) (ls : Array Slot), 9 - b < nf → (b ≤ 9) → (MW G w1 M0 V1 A1) → (RM S V1 A1) → (V1 36 = .long (mxs (cntV S) (mxs (fun i => nI (pgc (sg S) i)) (dg2v S) (sg S).length) b)) → (Out w w1 M0 (M0 + 20)) → PW N0 G w1 H → va_S (fun q => N0 ≤ q) s.heap H locs → lh ls 3 [some (.ref M0), some (.int (nI b)), u] → W p l e (rmD 7) s m ([.ref M0] : List Value).toArray below meth c H locs 0 0 (MQ below (XQ N0 G vL (fun r w1 => v_digest S = r ∧ (∃ V1 A1, MW G w1 M0 V1 A1 ∧ RM (S) V1 A1) ∧ Out w w1 M0 (M0 + 20))) ([.ref M0] : List Value).toArray s 0 0 (fun q => N0 ≤ q)) (F0 m 124 ls []) := by
                        intro nf
                        induction nf with
                        | zero => intros; omega
                        | succ nf ih124 =>
                          intro b V1 A1 w1 H locs ls hnf hb9 hM1 hR1 h361 hO1 hw hS hl
                          obtain ⟨hm0z, ⟨hv3z, hv4z, hv5z, hv6z, hv8z, hv9z, hv11z, hv12z, hv15z, hv18z, hv19z, hv20z, hv24z, hv30z, hv31z, hv32z, hv33z, hv34z, hv35z⟩, ha1z, ha2z, ha3z, ha4z, ha5z, ha6z, ha7z, ha8z, ha9z, ha10z, ha11z, ha12z, ha13z, ha14z, ha15z, ha16z, ha17z, ha18z, ha19z⟩ := id hM1
                          have h1n := hR1.2.1
                          have h1d := hR1.2.2.2.1
                          have h1g := hR1.2.2.2.2.2.2.1
                          refine xiload_n hx hb dX12_digest_124 hl rfl ?_
                          refine lv_bipush (v := nI 9) hx hb dX12_digest_125 (by decide) ?_
                          first | refine xcmp_ge (tgt := 146) hx hb dX12_digest_127 (by decide) (by omega) (by omega) (fun c127 => ?_) (fun c127 => ?_) | refine lv_icmp_ge (tgt := 146) hx hb dX12_digest_127 (by decide) (fun c127 => ?_) (fun c127 => ?_)
                          · skip
                            obtain rfl : b = 9 := by omega
                            refine xaload_n hx hb dX12_digest_146 hl rfl ?_
                            refine xgetM hx hb hts hiX12 hown hG hw (by repeat first | assumption | exact wu_eq _ _ _ | refine wu_ne (by omega) ?_) 36 (by decide) hlnk1 (by repeat first | assumption | exact vu_eq _ _ _ | refine vu_ne (by decide) ?_) dX12_digest_147 ?_
                            exact xlret hx hb hr hlk hw hS dX12_digest_150 ⟨rfl, ⟨V1, A1, hM1, hR1⟩, hO1⟩
                          · skip
                            refine xaload_n hx hb dX12_digest_130 hl rfl ?_
                            refine xaload_n hx hb dX12_digest_131 hl rfl ?_
                            refine xiload_n hx hb dX12_digest_132 hl rfl ?_
                            refine xVi ⟨hx, hb, hml, hown, hts⟩ (kX12_howMany l N0 G _ _ V1 A1 hM1 S hR1 hL _) (cwV 1 hts gX12_digest_X12_howMany rfl rfl rfl (by decide +kernel) ⟨Nat.le_of_ble_eq_true rfl, Nat.le_of_ble_eq_true rfl⟩) hG hN hw hS (ci := 12) hM1.1 rfl rfl hl.1 rfl (Nat.le_of_ble_eq_true rfl) dX12_digest_133 ⟨Nat.le_of_ble_eq_true rfl, Nat.le_of_ble_eq_true rfl⟩ (fun r133 w133 H locs hp133 hw hS => ?_)
                            obtain ⟨rfl, rfl⟩ := hp133
                            refine xtop (y := cntV S b) (by rw [v_count, onR_in (by omega) (by omega)]) ?_
                            refine lv_i2l hx hb dX12_digest_136 rfl ?_
                            refine xVv ⟨hx, hb, hml, hown, hts⟩ (kX12_mix l N0 G _ _ V1 A1 hM1 _ _ h361) (cwV 1 hts gX12_digest_X12_mix rfl rfl rfl (by decide +kernel) ⟨Nat.le_of_ble_eq_true rfl, Nat.le_of_ble_eq_true rfl⟩) hG hN hw hS (ci := 12) hM1.1 rfl rfl hl.1 rfl (Nat.le_of_ble_eq_true rfl) dX12_digest_137 ⟨Nat.le_of_ble_eq_true rfl, Nat.le_of_ble_eq_true rfl⟩ (fun r137 w137 H locs hp137 hw hS => ?_)
                            obtain rfl := hp137
                            have hM3 := hM1.put (k := 36) (.long (mx (mxs (cntV S) (mxs (fun i => nI (pgc (sg S) i)) (dg2v S) (sg S).length) b) (cntV S b))) (by decide)
                            have hR3 := rm_36 (x := .long (mx (mxs (cntV S) (mxs (fun i => nI (pgc (sg S) i)) (dg2v S) (sg S).length) b) (cntV S b))) hR1
                            have h363 : vu V1 36 (.long (mx (mxs (cntV S) (mxs (fun i => nI (pgc (sg S) i)) (dg2v S) (sg S).length) b) (cntV S b))) 36 = .long (mx (mxs (cntV S) (mxs (fun i => nI (pgc (sg S) i)) (dg2v S) (sg S).length) b) (cntV S b)) := vu_eq _ _ _
                            first | refine xiincN hx hb 1 dX12_digest_140 hl rfl (by decide) (by decide) rfl (fun ls hl => ?_) | refine xiinc hx hb dX12_digest_140 hl rfl rfl (by decide) rfl (fun ls hl => ?_)
                            refine lv_goto (tgt := 124) hx hb dX12_digest_143 (by decide) ?_
                            exact ih124 (b + 1) _ A1 _ _ _ _ (by omega) (by omega) hM3 hR3 h363 (hO1.wu (by omega) (by omega)) hw hS hl
                      exact loop124 10 0 V1 A1 _ _ _ _ (by omega) (by omega) hM1 hR1 h361 hO1 hw hS hl
                    · skip
                      refine xaload_n hx hb dX12_digest_105 hl rfl ?_
                      refine xaload_n hx hb dX12_digest_106 hl rfl ?_
                      refine xgetM hx hb hts hiX12 hown hG hw (by repeat first | assumption | exact wu_eq _ _ _ | refine wu_ne (by omega) ?_) 15 (by decide) hlnk5 (by repeat first | assumption | exact vu_eq _ _ _ | refine vu_ne (by decide) ?_) dX12_digest_107 ?_
                      refine xiload_n hx hb dX12_digest_110 hl rfl ?_
                      refine xbald hx hb hG hw (by repeat first | assumption | exact wu_eq _ _ _ | refine wu_ne (by omega) ?_) (by omega) (by omega) dX12_digest_111 ?_
                      refine xtop (y := nI (pgc (sg S) a)) (hR1.2.2.2.2.2.2.2.2.2.1 a (by omega)) ?_
                      refine lv_i2l hx hb dX12_digest_112 rfl ?_
                      refine xVv ⟨hx, hb, hml, hown, hts⟩ (kX12_mix l N0 G _ _ V1 A1 hM1 _ _ h361) (cwV 1 hts gX12_digest_X12_mix rfl rfl rfl (by decide +kernel) ⟨Nat.le_of_ble_eq_true rfl, Nat.le_of_ble_eq_true rfl⟩) hG hN hw hS (ci := 12) hM1.1 rfl rfl hl.1 rfl (Nat.le_of_ble_eq_true rfl) dX12_digest_113 ⟨Nat.le_of_ble_eq_true rfl, Nat.le_of_ble_eq_true rfl⟩ (fun r113 w113 H locs hp113 hw hS => ?_)
                      obtain rfl := hp113
                      have hM3 := hM1.put (k := 36) (.long (mx (mxs (fun i => nI (pgc (sg S) i)) (dg2v S) a) (nI (pgc (sg S) a)))) (by decide)
                      have hR3 := rm_36 (x := .long (mx (mxs (fun i => nI (pgc (sg S) i)) (dg2v S) a) (nI (pgc (sg S) a)))) hR1
                      have h363 : vu V1 36 (.long (mx (mxs (fun i => nI (pgc (sg S) i)) (dg2v S) a) (nI (pgc (sg S) a)))) 36 = .long (mx (mxs (fun i => nI (pgc (sg S) i)) (dg2v S) a) (nI (pgc (sg S) a))) := vu_eq _ _ _
                      first | refine xiincN hx hb 1 dX12_digest_116 hl rfl (by decide) (by decide) rfl (fun ls hl => ?_) | refine xiinc hx hb dX12_digest_116 hl rfl rfl (by decide) rfl (fun ls hl => ?_)
                      refine lv_goto (tgt := 97) hx hb dX12_digest_119 (by decide) ?_
                      exact ih97 (a + 1) _ A1 _ _ _ _ (by omega) (by omega) hM3 hR3 h363 (hO1.wu (by omega) (by omega)) hw hS hl
                exact loop97 ((sg S).length + 1) 0 V8 A1 _ _ _ _ (by omega) (by omega) hM8 hR8 h368 hO8 hw hS hl
            · skip
              refine lv_iconst (v := nI 0) hx hb dX12_digest_38 (by decide) ?_
              refine xistore_n hx hb dX12_digest_39 hl (by decide) rfl (fun ls hl => ?_)
              have loop40 : ∀ (nf : Nat) (k : Nat) (V1 : Nat → Value) (A1 : Nat → Nat → Int32) (w1 : Wd) (H : Heap) (locs : List Loc) (ls : Array Slot), 3 - k < nf → (k ≤ 3) → (MW G w1 M0 V1 A1) → (RM S V1 A1) → (V1 36 = .long (mxs (deedV S j) (digDs S (digPs S 967 (sn S)) j) k)) → (Out w w1 M0 (M0 + 20)) → PW N0 G w1 H → va_S (fun q => N0 ≤ q) s.heap H locs → lh ls 3 [some (.ref M0), some (.int (nI j)), some (.int (nI k))] → W p l e (rmD 7) s m ([.ref M0] : List Value).toArray below meth c H locs 0 0 (MQ below (XQ N0 G vL (fun r w1 => v_digest S = r ∧ (∃ V1 A1, MW G w1 M0 V1 A1 ∧ RM (S) V1 A1) ∧ Out w w1 M0 (M0 + 20))) ([.ref M0] : List Value).toArray s 0 0 (fun q => N0 ≤ q)) (F0 m 40 ls []) := by
                intro nf
                induction nf with
                | zero => intros; omega
                | succ nf ih40 =>
                  intro k V1 A1 w1 H locs ls hnf hk hM1 hR1 h361 hO1 hw hS hl
                  obtain ⟨hm0z, ⟨hv3z, hv4z, hv5z, hv6z, hv8z, hv9z, hv11z, hv12z, hv15z, hv18z, hv19z, hv20z, hv24z, hv30z, hv31z, hv32z, hv33z, hv34z, hv35z⟩, ha1z, ha2z, ha3z, ha4z, ha5z, ha6z, ha7z, ha8z, ha9z, ha10z, ha11z, ha12z, ha13z, ha14z, ha15z, ha16z, ha17z, ha18z, ha19z⟩ := id hM1
                  have h1n := hR1.2.1
                  have h1d := hR1.2.2.2.1
                  have h1g := hR1.2.2.2.2.2.2.1
                  refine xiload_n hx hb dX12_digest_40 hl rfl ?_
                  refine lv_iconst (v := nI 3) hx hb dX12_digest_41 (by decide) ?_
                  first | refine xcmp_ge (tgt := 62) hx hb dX12_digest_42 (by decide) (by omega) (by omega) (fun c42 => ?_) (fun c42 => ?_) | refine lv_icmp_ge (tgt := 62) hx hb dX12_digest_42 (by decide) (fun c42 => ?_) (fun c42 => ?_)
                  · skip
                    obtain rfl : k = 3 := by omega
                    first | refine xiincN hx hb 1 dX12_digest_62 hl rfl (by decide) (by decide) rfl (fun ls hl => ?_) | refine xiinc hx hb dX12_digest_62 hl rfl rfl (by decide) rfl (fun ls hl => ?_)
                    refine lv_goto (tgt := 30) hx hb dX12_digest_65 (by decide) ?_
                    exact ih30 (j + 1) _ V1 A1 _ _ _ _ (by omega) (by omega) hM1 hR1 h361 hO1 hw hS hl
                  · skip
                    refine xaload_n hx hb dX12_digest_45 hl rfl ?_
                    refine xaload_n hx hb dX12_digest_46 hl rfl ?_
                    refine xiload_n hx hb dX12_digest_47 hl rfl ?_
                    refine xiload_n hx hb dX12_digest_48 hl rfl ?_
                    refine xVi ⟨hx, hb, hml, hown, hts⟩ (kX12_deedNow l N0 G _ _ V1 A1 hM1 S hR1 hL j k (by omega) (by omega)) (cwV 2 hts gX12_digest_X12_deedNow rfl rfl rfl (by decide +kernel) ⟨Nat.le_of_ble_eq_true rfl, Nat.le_of_ble_eq_true rfl⟩) hG hN hw hS (ci := 12) hM1.1 rfl rfl hl.1 rfl (Nat.le_of_ble_eq_true rfl) dX12_digest_49 ⟨Nat.le_of_ble_eq_true rfl, Nat.le_of_ble_eq_true rfl⟩ (fun r49 w49 H locs hp49 hw hS => ?_)
                    obtain ⟨rfl, rfl⟩ := hp49
                    refine lv_i2l hx hb dX12_digest_52 rfl ?_
                    refine xVv ⟨hx, hb, hml, hown, hts⟩ (kX12_mix l N0 G _ _ V1 A1 hM1 _ _ h361) (cwV 1 hts gX12_digest_X12_mix rfl rfl rfl (by decide +kernel) ⟨Nat.le_of_ble_eq_true rfl, Nat.le_of_ble_eq_true rfl⟩) hG hN hw hS (ci := 12) hM1.1 rfl rfl hl.1 rfl (Nat.le_of_ble_eq_true rfl) dX12_digest_53 ⟨Nat.le_of_ble_eq_true rfl, Nat.le_of_ble_eq_true rfl⟩ (fun r53 w53 H locs hp53 hw hS => ?_)
                    obtain rfl := hp53
                    have hM3 := hM1.put (k := 36) (.long (mx (mxs (deedV S j) (digDs S (digPs S 967 (sn S)) j) k) (deedV S j k))) (by decide)
                    have hR3 := rm_36 (x := .long (mx (mxs (deedV S j) (digDs S (digPs S 967 (sn S)) j) k) (deedV S j k))) hR1
                    have h363 : vu V1 36 (.long (mx (mxs (deedV S j) (digDs S (digPs S 967 (sn S)) j) k) (deedV S j k))) 36 = .long (mx (mxs (deedV S j) (digDs S (digPs S 967 (sn S)) j) k) (deedV S j k)) := vu_eq _ _ _
                    first | refine xiincN hx hb 1 dX12_digest_56 hl rfl (by decide) (by decide) rfl (fun ls hl => ?_) | refine xiinc hx hb dX12_digest_56 hl rfl rfl (by decide) rfl (fun ls hl => ?_)
                    refine lv_goto (tgt := 40) hx hb dX12_digest_59 (by decide) ?_
                    exact ih40 (k + 1) _ A1 _ _ _ _ (by omega) (by omega) hM3 hR3 h363 (hO1.wu (by omega) (by omega)) hw hS hl
              exact loop40 4 0 V1 A1 _ _ _ _ (by omega) (by omega) hM1 hR1 h361 hO1 hw hS hl
        exact loop30 ((sd S).length + 1) 0 none V1 A1 _ _ _ _ (by omega) (by omega) hM1 hR1 h361 hO1 hw hS hl
      · skip
        refine xaload_n hx hb dX12_digest_17 hl rfl ?_
        refine xiload_n hx hb dX12_digest_18 hl rfl ?_
        refine xVv ⟨hx, hb, hml, hown, hts⟩ (kX12_mixOne l N0 G _ _ V1 A1 hM1 S hR1 hL hpa hhd _ h361 i (by omega)) (cwV 1 hts gX12_digest_X12_mixOne rfl rfl rfl (by decide +kernel) ⟨Nat.le_of_ble_eq_true rfl, Nat.le_of_ble_eq_true rfl⟩) hG hN hw hS (ci := 12) hM1.1 rfl rfl hl.1 rfl (Nat.le_of_ble_eq_true rfl) dX12_digest_19 ⟨Nat.le_of_ble_eq_true rfl, Nat.le_of_ble_eq_true rfl⟩ (fun r19 w19 H locs hp19 hw hS => ?_)
        obtain ⟨V2, A2, hM2, hR2, h362, hO2⟩ := hp19
        first | refine xiincN hx hb 1 dX12_digest_22 hl rfl (by decide) (by decide) rfl (fun ls hl => ?_) | refine xiinc hx hb dX12_digest_22 hl rfl rfl (by decide) rfl (fun ls hl => ?_)
        refine lv_goto (tgt := 9) hx hb dX12_digest_25 (by decide) ?_
        exact ih9 (i + 1) V2 A2 _ _ _ _ (by omega) (by omega) hM2 hR2 h362 (hO1.tr hO2 (Nat.le_refl _) (Nat.le_refl _)) hw hS hl
  exact loop9 (sn S + 1) 0 _ A _ _ _ _ (by omega) (by omega) (hM.put (k := 36) (.long 967) (by decide)) (rm_36 hR) (vu_eq _ _ _) (Out.rf.wu (by omega) (by omega)) hw hS hl
