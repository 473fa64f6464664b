set_option maxHeartbeats 4000000 in
set_option maxRecDepth 100000 in
theorem lc_way {p : Program} {l : Launch} {e : Env} {s : State} {m : MethodId} {below : List Frame} {meth : Method} {c : Code} {G : XG} {b L k : Nat} {xs : Nat → Int32} {Q : State → Prop} {H : Heap} {locs : List Loc} {ls : Array Slot} {w : Wd} {V : Nat → Value} {A : Nat → Nat → Int32} {S : QS} {cells slots : Nat} (C0 : lw_At p s m meth c b L xs) (hG : GK G s) (hK : SK s.heap.size G s s.heap) (hi : 4 * k + 4 ≤ L) (hL : L ≤ 256) (hc : cells + 5 ≤ 600000 ∧ slots + 5 ≤ 7302250) (hI : LI G w s.heap.size S V A) (hT : sT S ≤ k) (hw : PW s.heap.size G w H) (hS : va_S (fun q => s.heap.size ≤ q) s.heap H locs) (hl : lh ls 4 [some (.ref b), some (.ref s.heap.size), some (.ref (s.heap.size + 52)), some (.int (nI (4 * k)))]) (kk : ∀ (S1 : QS) (V1 : Nat → Value) (A1 : Nat → Nat → Int32) (w1 : Wd) (H1 : Heap) (locs1 : List Loc), LI G w1 s.heap.size S1 V1 A1 → sT S1 ≤ k + 1 → PW s.heap.size G w1 H1 → va_S (fun q => s.heap.size ≤ q) s.heap H1 locs1 → W p l e room_1 s m #[Value.ref b] below meth c H1 locs1 (cells + 5) (slots + 5) Q (F0 m 776 ls [])) : W p l e room_1 s m #[Value.ref b] below meth c H locs cells slots Q (F0 m 466 ls []) := by
  obtain ⟨hx, hb, hr, hml, hown, hts0, hX, hbl, hlocks, hgv⟩ := id C0
  have hb : c.code = cL_law := hb
  have hown : s.vm.findClass RL = some m.cls := hown
  have hts : ∀ x ∈ wsL_law, x.before #[Value.ref b] s = true := fun x h => hts0 x (wsL_law_in x h)
  have hbA : ¬ (fun q : Nat => s.heap.size ≤ q) b := Nat.not_le.mpr hbl
  have hN : s.heap.size ≤ s.heap.size ∧ SK s.heap.size G s s.heap := ⟨Nat.le_refl _, hK⟩
  obtain ⟨hq, hM, hR, hW⟩ := hI
  have hLb := hq.wb
  have hx0 := hq.1
  have hm0 := hM.1
  have hpa : ∀ i, i < sn S → ∀ x ∈ sp S i, x < sn S := hW.1.1
  have hhd : ∀ q ∈ sh S, q.1 < sn S := hW.1.2.2.2
  have hbn : ∀ d, d < (sd S).length → bd (sd S) d < 2 ^ sn S := hW.1.2.2.1
  have hsT : sT S ≤ 1000 := hW.2.2.1
  have hsa : sA S ≤ 40 := hW.2.2.2
  refine xaload_n hx hb dL_law_466 hl rfl ?_
  refine xaload_n hx hb dL_law_467 hl rfl ?_
  refine xiload_n hx hb dL_law_468 hl rfl ?_
  refine lv_iconst (v := nI 1) hx hb dL_law_469 (by decide) ?_
  refine xadd hx hb dL_law_470 ?_
  refine xsld hx hb hX hbl hbA hS (by omega) hL dL_law_471 ?_
  refine xaload_n hx hb dL_law_472 hl rfl ?_
  refine xiload_n hx hb dL_law_473 hl rfl ?_
  refine lv_iconst (v := nI 2) hx hb dL_law_474 (by decide) ?_
  refine xadd hx hb dL_law_475 ?_
  refine xsld hx hb hX hbl hbA hS (by omega) hL dL_law_476 ?_
  refine xaload_n hx hb dL_law_477 hl rfl ?_
  refine xiload_n hx hb dL_law_478 hl rfl ?_
  refine lv_iconst (v := nI 3) hx hb dL_law_479 (by decide) ?_
  refine xadd hx hb dL_law_480 ?_
  refine xsld hx hb hX hbl hbA hS (by omega) hL dL_law_481 ?_
  refine xVi ⟨hx, hb, hml, hown, hts⟩ (kX11_way l s.heap.size G w s.heap.size (s.heap.size + 72) S hq hW (by omega) (xs (4 * k + 1)) (xs (4 * k + 2)) (xs (4 * k + 3))) (cwV 3 hts gL_law_X11_way rfl rfl rfl (by decide +kernel) ⟨Nat.le_of_ble_eq_true rfl, Nat.le_of_ble_eq_true rfl⟩) hG hN hw hS (ci := 11) hx0 rfl rfl hl.1 rfl (Nat.le_of_ble_eq_true rfl) dL_law_482 ⟨by show _ ≤ 600000; omega, by show _ ≤ 7302250; omega⟩ (fun r1 w1 H locs hp1 hw hS => ?_)
  obtain ⟨rfl, hq1, hO1⟩ := hp1
  have hM1 := hM.out hO1 (Or.inr (by omega))
  have hm1 := hM1.1
  refine xaload_n hx hb dL_law_485 hl rfl ?_
  refine xaload_n hx hb dL_law_486 hl rfl ?_
  refine xiload_n hx hb dL_law_487 hl rfl ?_
  refine lv_iconst (v := nI 1) hx hb dL_law_488 (by decide) ?_
  refine xadd hx hb dL_law_489 ?_
  refine xsld hx hb hX hbl hbA hS (by omega) hL dL_law_490 ?_
  refine xaload_n hx hb dL_law_491 hl rfl ?_
  refine xiload_n hx hb dL_law_492 hl rfl ?_
  refine lv_iconst (v := nI 2) hx hb dL_law_493 (by decide) ?_
  refine xadd hx hb dL_law_494 ?_
  refine xsld hx hb hX hbl hbA hS (by omega) hL dL_law_495 ?_
  refine xaload_n hx hb dL_law_496 hl rfl ?_
  refine xiload_n hx hb dL_law_497 hl rfl ?_
  refine lv_iconst (v := nI 3) hx hb dL_law_498 (by decide) ?_
  refine xadd hx hb dL_law_499 ?_
  refine xsld hx hb hX hbl hbA hS (by omega) hL dL_law_500 ?_
  refine xVi ⟨hx, hb, hml, hown, hts⟩ (kX12_way l s.heap.size G _ (s.heap.size + 52) V A hM1 S hR hLb hpa hsa (xs (4 * k + 1)) (xs (4 * k + 2)) (xs (4 * k + 3))) (cwV 3 hts gL_law_X12_way rfl rfl rfl (by decide +kernel) ⟨Nat.le_of_ble_eq_true rfl, Nat.le_of_ble_eq_true rfl⟩) hG hN hw hS (ci := 12) hm1 rfl rfl hl.1 rfl (Nat.le_of_ble_eq_true rfl) dL_law_501 ⟨by show _ ≤ 600000; omega, by show _ ≤ 7302250; omega⟩ (fun r2 w2 H locs hp2 hw hS => ?_)
  obtain ⟨rfl, ⟨V2, A2, hM2, hR2⟩, hO2⟩ := hp2
  refine lv_icmp_eq (tgt := 776) hx hb dL_law_504 (by decide) (fun _ => ?_) (fun q => absurd rfl q)
  refine W.widen (k := cells + 5) (n := slots + 5) (by omega) (by omega) ?_
  exact kk (o_way S (xs (4 * k + 1)) (xs (4 * k + 2)) (xs (4 * k + 3))).2 V2 A2 _ _ _ ⟨(hq1.out hO2 (by omega) (by omega)), hM2, hR2, (gq_way (xs (4 * k + 1)) (xs (4 * k + 2)) (xs (4 * k + 3)) hW hT).1⟩ (gq_way (xs (4 * k + 1)) (xs (4 * k + 2)) (xs (4 * k + 3)) hW hT).2 hw hS
set_option maxHeartbeats 4000000 in
set_option maxRecDepth 100000 in
theorem lc_find {p : Program} {l : Launch} {e : Env} {s : State} {m : MethodId} {below : List Frame} {meth : Method} {c : Code} {G : XG} {b L k : Nat} {xs : Nat → Int32} {Q : State → Prop} {H : Heap} {locs : List Loc} {ls : Array Slot} {w : Wd} {V : Nat → Value} {A : Nat → Nat → Int32} {S : QS} {cells slots : Nat} (C0 : lw_At p s m meth c b L xs) (hG : GK G s) (hK : SK s.heap.size G s s.heap) (hi : 4 * k + 4 ≤ L) (hL : L ≤ 256) (hc : cells + 5 ≤ 600000 ∧ slots + 5 ≤ 7302250) (hI : LI G w s.heap.size S V A) (hT : sT S ≤ k) (hw : PW s.heap.size G w H) (hS : va_S (fun q => s.heap.size ≤ q) s.heap H locs) (hl : lh ls 4 [some (.ref b), some (.ref s.heap.size), some (.ref (s.heap.size + 52)), some (.int (nI (4 * k)))]) (kk : ∀ (S1 : QS) (V1 : Nat → Value) (A1 : Nat → Nat → Int32) (w1 : Wd) (H1 : Heap) (locs1 : List Loc), LI G w1 s.heap.size S1 V1 A1 → sT S1 ≤ k + 1 → PW s.heap.size G w1 H1 → va_S (fun q => s.heap.size ≤ q) s.heap H1 locs1 → W p l e room_1 s m #[Value.ref b] below meth c H1 locs1 (cells + 5) (slots + 5) Q (F0 m 776 ls [])) : W p l e room_1 s m #[Value.ref b] below meth c H locs cells slots Q (F0 m 509 ls []) := by
  obtain ⟨hx, hb, hr, hml, hown, hts0, hX, hbl, hlocks, hgv⟩ := id C0
  have hb : c.code = cL_law := hb
  have hown : s.vm.findClass RL = some m.cls := hown
  have hts : ∀ x ∈ wsL_law, x.before #[Value.ref b] s = true := fun x h => hts0 x (wsL_law_in x h)
  have hbA : ¬ (fun q : Nat => s.heap.size ≤ q) b := Nat.not_le.mpr hbl
  have hN : s.heap.size ≤ s.heap.size ∧ SK s.heap.size G s s.heap := ⟨Nat.le_refl _, hK⟩
  obtain ⟨hq, hM, hR, hW⟩ := hI
  have hLb := hq.wb
  have hx0 := hq.1
  have hm0 := hM.1
  have hpa : ∀ i, i < sn S → ∀ x ∈ sp S i, x < sn S := hW.1.1
  have hhd : ∀ q ∈ sh S, q.1 < sn S := hW.1.2.2.2
  have hbn : ∀ d, d < (sd S).length → bd (sd S) d < 2 ^ sn S := hW.1.2.2.1
  have hsT : sT S ≤ 1000 := hW.2.2.1
  have hsa : sA S ≤ 40 := hW.2.2.2
  refine xaload_n hx hb dL_law_509 hl rfl ?_
  refine xaload_n hx hb dL_law_510 hl rfl ?_
  refine xiload_n hx hb dL_law_511 hl rfl ?_
  refine lv_iconst (v := nI 1) hx hb dL_law_512 (by decide) ?_
  refine xadd hx hb dL_law_513 ?_
  refine xsld hx hb hX hbl hbA hS (by omega) hL dL_law_514 ?_
  refine xVi ⟨hx, hb, hml, hown, hts⟩ (kX11_find l s.heap.size G w s.heap.size (s.heap.size + 72) S hq hW (by omega) (xs (4 * k + 1))) (cwV 1 hts gL_law_X11_find rfl rfl rfl (by decide +kernel) ⟨Nat.le_of_ble_eq_true rfl, Nat.le_of_ble_eq_true rfl⟩) hG hN hw hS (ci := 11) hx0 rfl rfl hl.1 rfl (Nat.le_of_ble_eq_true rfl) dL_law_515 ⟨by show _ ≤ 600000; omega, by show _ ≤ 7302250; omega⟩ (fun r1 w1 H locs hp1 hw hS => ?_)
  obtain ⟨rfl, rfl⟩ := hp1
  have hM1 := hM
  have hq1 := hq
  have hm1 := hM1.1
  refine xaload_n hx hb dL_law_518 hl rfl ?_
  refine xaload_n hx hb dL_law_519 hl rfl ?_
  refine xiload_n hx hb dL_law_520 hl rfl ?_
  refine lv_iconst (v := nI 1) hx hb dL_law_521 (by decide) ?_
  refine xadd hx hb dL_law_522 ?_
  refine xsld hx hb hX hbl hbA hS (by omega) hL dL_law_523 ?_
  refine xVi ⟨hx, hb, hml, hown, hts⟩ (kX12_find l s.heap.size G _ (s.heap.size + 52) V A hM1 S hR hLb hbn (xs (4 * k + 1))) (cwV 1 hts gL_law_X12_find rfl rfl rfl (by decide +kernel) ⟨Nat.le_of_ble_eq_true rfl, Nat.le_of_ble_eq_true rfl⟩) hG hN hw hS (ci := 12) hm1 rfl rfl hl.1 rfl (Nat.le_of_ble_eq_true rfl) dL_law_524 ⟨by show _ ≤ 600000; omega, by show _ ≤ 7302250; omega⟩ (fun r2 w2 H locs hp2 hw hS => ?_)
  obtain ⟨rfl, rfl⟩ := hp2
  refine lv_icmp_eq (tgt := 776) hx hb dL_law_527 (by decide) (fun _ => ?_) (fun q => absurd rfl q)
  refine W.widen (k := cells + 5) (n := slots + 5) (by omega) (by omega) ?_
  exact kk S V A _ _ _ ⟨hq1, hM1, hR, hW⟩ (Nat.le_succ_of_le hT) hw hS
set_option maxHeartbeats 4000000 in
set_option maxRecDepth 100000 in
theorem lc_hear {p : Program} {l : Launch} {e : Env} {s : State} {m : MethodId} {below : List Frame} {meth : Method} {c : Code} {G : XG} {b L k : Nat} {xs : Nat → Int32} {Q : State → Prop} {H : Heap} {locs : List Loc} {ls : Array Slot} {w : Wd} {V : Nat → Value} {A : Nat → Nat → Int32} {S : QS} {cells slots : Nat} (C0 : lw_At p s m meth c b L xs) (hG : GK G s) (hK : SK s.heap.size G s s.heap) (hi : 4 * k + 4 ≤ L) (hL : L ≤ 256) (hc : cells + 5 ≤ 600000 ∧ slots + 5 ≤ 7302250) (hI : LI G w s.heap.size S V A) (hT : sT S ≤ k) (hw : PW s.heap.size G w H) (hS : va_S (fun q => s.heap.size ≤ q) s.heap H locs) (hl : lh ls 4 [some (.ref b), some (.ref s.heap.size), some (.ref (s.heap.size + 52)), some (.int (nI (4 * k)))]) (kk : ∀ (S1 : QS) (V1 : Nat → Value) (A1 : Nat → Nat → Int32) (w1 : Wd) (H1 : Heap) (locs1 : List Loc), LI G w1 s.heap.size S1 V1 A1 → sT S1 ≤ k + 1 → PW s.heap.size G w1 H1 → va_S (fun q => s.heap.size ≤ q) s.heap H1 locs1 → W p l e room_1 s m #[Value.ref b] below meth c H1 locs1 (cells + 5) (slots + 5) Q (F0 m 776 ls [])) : W p l e room_1 s m #[Value.ref b] below meth c H locs cells slots Q (F0 m 532 ls []) := by
  obtain ⟨hx, hb, hr, hml, hown, hts0, hX, hbl, hlocks, hgv⟩ := id C0
  have hb : c.code = cL_law := hb
  have hown : s.vm.findClass RL = some m.cls := hown
  have hts : ∀ x ∈ wsL_law, x.before #[Value.ref b] s = true := fun x h => hts0 x (wsL_law_in x h)
  have hbA : ¬ (fun q : Nat => s.heap.size ≤ q) b := Nat.not_le.mpr hbl
  have hN : s.heap.size ≤ s.heap.size ∧ SK s.heap.size G s s.heap := ⟨Nat.le_refl _, hK⟩
  obtain ⟨hq, hM, hR, hW⟩ := hI
  have hLb := hq.wb
  have hx0 := hq.1
  have hm0 := hM.1
  have hpa : ∀ i, i < sn S → ∀ x ∈ sp S i, x < sn S := hW.1.1
  have hhd : ∀ q ∈ sh S, q.1 < sn S := hW.1.2.2.2
  have hbn : ∀ d, d < (sd S).length → bd (sd S) d < 2 ^ sn S := hW.1.2.2.1
  have hsT : sT S ≤ 1000 := hW.2.2.1
  have hsa : sA S ≤ 40 := hW.2.2.2
  by_cases hv0 : xs (4 * k + 2) = 0
  · refine xaload_n hx hb dL_law_532 hl rfl ?_
    refine xaload_n hx hb dL_law_533 hl rfl ?_
    refine xiload_n hx hb dL_law_534 hl rfl ?_
    refine lv_iconst (v := nI 1) hx hb dL_law_535 (by decide) ?_
    refine xadd hx hb dL_law_536 ?_
    refine xsld hx hb hX hbl hbA hS (by omega) hL dL_law_537 ?_
    refine xaload_n hx hb dL_law_538 hl rfl ?_
    refine xiload_n hx hb dL_law_539 hl rfl ?_
    refine lv_iconst (v := nI 2) hx hb dL_law_540 (by decide) ?_
    refine xadd hx hb dL_law_541 ?_
    refine xsld hx hb hX hbl hbA hS (by omega) hL dL_law_542 ?_
    refine lv_if_eq (tgt := 550) hx hb dL_law_543 (by decide) (fun _ => ?_) (fun q => absurd hv0 q)
    refine lv_iconst (v := nI 0) hx hb dL_law_550 (by decide) ?_
    refine xtop (y := bI false) rfl ?_
    refine xVi ⟨hx, hb, hml, hown, hts⟩ (kX11_hear l s.heap.size G w s.heap.size (s.heap.size + 72) S hq hW (by omega) (xs (4 * k + 1)) false) (cwV 2 hts gL_law_X11_hear rfl rfl rfl (by decide +kernel) ⟨Nat.le_of_ble_eq_true rfl, Nat.le_of_ble_eq_true rfl⟩) hG hN hw hS (ci := 11) hx0 rfl rfl hl.1 rfl (Nat.le_of_ble_eq_true rfl) dL_law_551 ⟨by show _ ≤ 600000; omega, by show _ ≤ 7302250; omega⟩ (fun r1 w1 H locs hp1 hw hS => ?_)
    obtain ⟨rfl, hq1, hO1⟩ := hp1
    have hM1 := hM.out hO1 (Or.inr (by omega))
    have hm1 := hM1.1
    refine xaload_n hx hb dL_law_554 hl rfl ?_
    refine xaload_n hx hb dL_law_555 hl rfl ?_
    refine xiload_n hx hb dL_law_556 hl rfl ?_
    refine lv_iconst (v := nI 1) hx hb dL_law_557 (by decide) ?_
    refine xadd hx hb dL_law_558 ?_
    refine xsld hx hb hX hbl hbA hS (by omega) hL dL_law_559 ?_
    refine xaload_n hx hb dL_law_560 hl rfl ?_
    refine xiload_n hx hb dL_law_561 hl rfl ?_
    refine lv_iconst (v := nI 2) hx hb dL_law_562 (by decide) ?_
    refine xadd hx hb dL_law_563 ?_
    refine xsld hx hb hX hbl hbA hS (by omega) hL dL_law_564 ?_
    refine lv_if_eq (tgt := 572) hx hb dL_law_565 (by decide) (fun _ => ?_) (fun q => absurd hv0 q)
    refine lv_iconst (v := nI 0) hx hb dL_law_572 (by decide) ?_
    refine xtop (y := bI false) rfl ?_
    refine xVi ⟨hx, hb, hml, hown, hts⟩ (kX12_hear l s.heap.size G _ (s.heap.size + 52) V A hM1 S hR hLb (xs (4 * k + 1)) false) (cwV 2 hts gL_law_X12_hear rfl rfl rfl (by decide +kernel) ⟨Nat.le_of_ble_eq_true rfl, Nat.le_of_ble_eq_true rfl⟩) hG hN hw hS (ci := 12) hm1 rfl rfl hl.1 rfl (Nat.le_of_ble_eq_true rfl) dL_law_573 ⟨by show _ ≤ 600000; omega, by show _ ≤ 7302250; omega⟩ (fun r2 w2 H locs hp2 hw hS => ?_)
    obtain ⟨rfl, ⟨V2, A2, hM2, hR2⟩, hO2⟩ := hp2
    refine lv_icmp_eq (tgt := 776) hx hb dL_law_576 (by decide) (fun _ => ?_) (fun q => absurd rfl q)
    refine W.widen (k := cells + 5) (n := slots + 5) (by omega) (by omega) ?_
    exact kk (o_hear S (xs (4 * k + 1)) false).2 V2 A2 _ _ _ ⟨(hq1.out hO2 (by omega) (by omega)), hM2, hR2, (gq_hear (xs (4 * k + 1)) false hW hT).1⟩ (gq_hear (xs (4 * k + 1)) false hW hT).2 hw hS
  · refine xaload_n hx hb dL_law_532 hl rfl ?_
    refine xaload_n hx hb dL_law_533 hl rfl ?_
    refine xiload_n hx hb dL_law_534 hl rfl ?_
    refine lv_iconst (v := nI 1) hx hb dL_law_535 (by decide) ?_
    refine xadd hx hb dL_law_536 ?_
    refine xsld hx hb hX hbl hbA hS (by omega) hL dL_law_537 ?_
    refine xaload_n hx hb dL_law_538 hl rfl ?_
    refine xiload_n hx hb dL_law_539 hl rfl ?_
    refine lv_iconst (v := nI 2) hx hb dL_law_540 (by decide) ?_
    refine xadd hx hb dL_law_541 ?_
    refine xsld hx hb hX hbl hbA hS (by omega) hL dL_law_542 ?_
    refine lv_if_eq (tgt := 550) hx hb dL_law_543 (by decide) (fun q => absurd q hv0) (fun _ => ?_)
    refine lv_iconst (v := nI 1) hx hb dL_law_546 (by decide) ?_
    refine lv_goto (tgt := 551) hx hb dL_law_547 (by decide) ?_
    refine xtop (y := bI true) rfl ?_
    refine xVi ⟨hx, hb, hml, hown, hts⟩ (kX11_hear l s.heap.size G w s.heap.size (s.heap.size + 72) S hq hW (by omega) (xs (4 * k + 1)) true) (cwV 2 hts gL_law_X11_hear rfl rfl rfl (by decide +kernel) ⟨Nat.le_of_ble_eq_true rfl, Nat.le_of_ble_eq_true rfl⟩) hG hN hw hS (ci := 11) hx0 rfl rfl hl.1 rfl (Nat.le_of_ble_eq_true rfl) dL_law_551 ⟨by show _ ≤ 600000; omega, by show _ ≤ 7302250; omega⟩ (fun r1 w1 H locs hp1 hw hS => ?_)
    obtain ⟨rfl, hq1, hO1⟩ := hp1
    have hM1 := hM.out hO1 (Or.inr (by omega))
    have hm1 := hM1.1
    refine xaload_n hx hb dL_law_554 hl rfl ?_
    refine xaload_n hx hb dL_law_555 hl rfl ?_
    refine xiload_n hx hb dL_law_556 hl rfl ?_
    refine lv_iconst (v := nI 1) hx hb dL_law_557 (by decide) ?_
    refine xadd hx hb dL_law_558 ?_
    refine xsld hx hb hX hbl hbA hS (by omega) hL dL_law_559 ?_
    refine xaload_n hx hb dL_law_560 hl rfl ?_
    refine xiload_n hx hb dL_law_561 hl rfl ?_
    refine lv_iconst (v := nI 2) hx hb dL_law_562 (by decide) ?_
    refine xadd hx hb dL_law_563 ?_
    refine xsld hx hb hX hbl hbA hS (by omega) hL dL_law_564 ?_
    refine lv_if_eq (tgt := 572) hx hb dL_law_565 (by decide) (fun q => absurd q hv0) (fun _ => ?_)
    refine lv_iconst (v := nI 1) hx hb dL_law_568 (by decide) ?_
    refine lv_goto (tgt := 573) hx hb dL_law_569 (by decide) ?_
    refine xtop (y := bI true) rfl ?_
    refine xVi ⟨hx, hb, hml, hown, hts⟩ (kX12_hear l s.heap.size G _ (s.heap.size + 52) V A hM1 S hR hLb (xs (4 * k + 1)) true) (cwV 2 hts gL_law_X12_hear rfl rfl rfl (by decide +kernel) ⟨Nat.le_of_ble_eq_true rfl, Nat.le_of_ble_eq_true rfl⟩) hG hN hw hS (ci := 12) hm1 rfl rfl hl.1 rfl (Nat.le_of_ble_eq_true rfl) dL_law_573 ⟨by show _ ≤ 600000; omega, by show _ ≤ 7302250; omega⟩ (fun r2 w2 H locs hp2 hw hS => ?_)
    obtain ⟨rfl, ⟨V2, A2, hM2, hR2⟩, hO2⟩ := hp2
    refine lv_icmp_eq (tgt := 776) hx hb dL_law_576 (by decide) (fun _ => ?_) (fun q => absurd rfl q)
    refine W.widen (k := cells + 5) (n := slots + 5) (by omega) (by omega) ?_
    exact kk (o_hear S (xs (4 * k + 1)) true).2 V2 A2 _ _ _ ⟨(hq1.out hO2 (by omega) (by omega)), hM2, hR2, (gq_hear (xs (4 * k + 1)) true hW hT).1⟩ (gq_hear (xs (4 * k + 1)) true hW hT).2 hw hS
set_option maxHeartbeats 4000000 in
set_option maxRecDepth 100000 in
theorem lc_forget {p : Program} {l : Launch} {e : Env} {s : State} {m : MethodId} {below : List Frame} {meth : Method} {c : Code} {G : XG} {b L k : Nat} {xs : Nat → Int32} {Q : State → Prop} {H : Heap} {locs : List Loc} {ls : Array Slot} {w : Wd} {V : Nat → Value} {A : Nat → Nat → Int32} {S : QS} {cells slots : Nat} (C0 : lw_At p s m meth c b L xs) (hG : GK G s) (hK : SK s.heap.size G s s.heap) (hi : 4 * k + 4 ≤ L) (hL : L ≤ 256) (hc : cells + 5 ≤ 600000 ∧ slots + 5 ≤ 7302250) (hI : LI G w s.heap.size S V A) (hT : sT S ≤ k) (hw : PW s.heap.size G w H) (hS : va_S (fun q => s.heap.size ≤ q) s.heap H locs) (hl : lh ls 4 [some (.ref b), some (.ref s.heap.size), some (.ref (s.heap.size + 52)), some (.int (nI (4 * k)))]) (kk : ∀ (S1 : QS) (V1 : Nat → Value) (A1 : Nat → Nat → Int32) (w1 : Wd) (H1 : Heap) (locs1 : List Loc), LI G w1 s.heap.size S1 V1 A1 → sT S1 ≤ k + 1 → PW s.heap.size G w1 H1 → va_S (fun q => s.heap.size ≤ q) s.heap H1 locs1 → W p l e room_1 s m #[Value.ref b] below meth c H1 locs1 (cells + 5) (slots + 5) Q (F0 m 776 ls [])) : W p l e room_1 s m #[Value.ref b] below meth c H locs cells slots Q (F0 m 581 ls []) := by
  obtain ⟨hx, hb, hr, hml, hown, hts0, hX, hbl, hlocks, hgv⟩ := id C0
  have hb : c.code = cL_law := hb
  have hown : s.vm.findClass RL = some m.cls := hown
  have hts : ∀ x ∈ wsL_law, x.before #[Value.ref b] s = true := fun x h => hts0 x (wsL_law_in x h)
  have hbA : ¬ (fun q : Nat => s.heap.size ≤ q) b := Nat.not_le.mpr hbl
  have hN : s.heap.size ≤ s.heap.size ∧ SK s.heap.size G s s.heap := ⟨Nat.le_refl _, hK⟩
  obtain ⟨hq, hM, hR, hW⟩ := hI
  have hLb := hq.wb
  have hx0 := hq.1
  have hm0 := hM.1
  have hpa : ∀ i, i < sn S → ∀ x ∈ sp S i, x < sn S := hW.1.1
  have hhd : ∀ q ∈ sh S, q.1 < sn S := hW.1.2.2.2
  have hbn : ∀ d, d < (sd S).length → bd (sd S) d < 2 ^ sn S := hW.1.2.2.1
  have hsT : sT S ≤ 1000 := hW.2.2.1
  have hsa : sA S ≤ 40 := hW.2.2.2
  refine xaload_n hx hb dL_law_581 hl rfl ?_
  refine xVi ⟨hx, hb, hml, hown, hts⟩ (kX11_forget l s.heap.size G w s.heap.size (s.heap.size + 72) S hq hW (by omega)) (cwV 0 hts gL_law_X11_forget rfl rfl rfl (by decide +kernel) ⟨Nat.le_of_ble_eq_true rfl, Nat.le_of_ble_eq_true rfl⟩) hG hN hw hS (ci := 11) hx0 rfl rfl hl.1 rfl (Nat.le_of_ble_eq_true rfl) dL_law_582 ⟨by show _ ≤ 600000; omega, by show _ ≤ 7302250; omega⟩ (fun r1 w1 H locs hp1 hw hS => ?_)
  obtain ⟨rfl, hq1, hO1⟩ := hp1
  have hM1 := hM.out hO1 (Or.inr (by omega))
  have hm1 := hM1.1
  refine xaload_n hx hb dL_law_585 hl rfl ?_
  refine xVi ⟨hx, hb, hml, hown, hts⟩ (kX12_forget l s.heap.size G _ (s.heap.size + 52) V A hM1 S hR hLb) (cwV 0 hts gL_law_X12_forget rfl rfl rfl (by decide +kernel) ⟨Nat.le_of_ble_eq_true rfl, Nat.le_of_ble_eq_true rfl⟩) hG hN hw hS (ci := 12) hm1 rfl rfl hl.1 rfl (Nat.le_of_ble_eq_true rfl) dL_law_586 ⟨by show _ ≤ 600000; omega, by show _ ≤ 7302250; omega⟩ (fun r2 w2 H locs hp2 hw hS => ?_)
  obtain ⟨rfl, ⟨V2, A2, hM2, hR2⟩, hO2⟩ := hp2
  refine lv_icmp_eq (tgt := 776) hx hb dL_law_589 (by decide) (fun _ => ?_) (fun q => absurd rfl q)
  refine W.widen (k := cells + 5) (n := slots + 5) (by omega) (by omega) ?_
  exact kk (forS S) V2 A2 _ _ _ ⟨(hq1.out hO2 (by omega) (by omega)), hM2, hR2, wf_forget hW⟩ (Nat.le_succ_of_le hT) hw hS
set_option maxHeartbeats 4000000 in
set_option maxRecDepth 100000 in
theorem lc_hands {p : Program} {l : Launch} {e : Env} {s : State} {m : MethodId} {below : List Frame} {meth : Method} {c : Code} {G : XG} {b L k : Nat} {xs : Nat → Int32} {Q : State → Prop} {H : Heap} {locs : List Loc} {ls : Array Slot} {w : Wd} {V : Nat → Value} {A : Nat → Nat → Int32} {S : QS} {cells slots : Nat} (C0 : lw_At p s m meth c b L xs) (hG : GK G s) (hK : SK s.heap.size G s s.heap) (hi : 4 * k + 4 ≤ L) (hL : L ≤ 256) (hc : cells + 5 ≤ 600000 ∧ slots + 5 ≤ 7302250) (hI : LI G w s.heap.size S V A) (hT : sT S ≤ k) (hw : PW s.heap.size G w H) (hS : va_S (fun q => s.heap.size ≤ q) s.heap H locs) (hl : lh ls 4 [some (.ref b), some (.ref s.heap.size), some (.ref (s.heap.size + 52)), some (.int (nI (4 * k)))]) (kk : ∀ (S1 : QS) (V1 : Nat → Value) (A1 : Nat → Nat → Int32) (w1 : Wd) (H1 : Heap) (locs1 : List Loc), LI G w1 s.heap.size S1 V1 A1 → sT S1 ≤ k + 1 → PW s.heap.size G w1 H1 → va_S (fun q => s.heap.size ≤ q) s.heap H1 locs1 → W p l e room_1 s m #[Value.ref b] below meth c H1 locs1 (cells + 5) (slots + 5) Q (F0 m 776 ls [])) : W p l e room_1 s m #[Value.ref b] below meth c H locs cells slots Q (F0 m 594 ls []) := by
  obtain ⟨hx, hb, hr, hml, hown, hts0, hX, hbl, hlocks, hgv⟩ := id C0
  have hb : c.code = cL_law := hb
  have hown : s.vm.findClass RL = some m.cls := hown
  have hts : ∀ x ∈ wsL_law, x.before #[Value.ref b] s = true := fun x h => hts0 x (wsL_law_in x h)
  have hbA : ¬ (fun q : Nat => s.heap.size ≤ q) b := Nat.not_le.mpr hbl
  have hN : s.heap.size ≤ s.heap.size ∧ SK s.heap.size G s s.heap := ⟨Nat.le_refl _, hK⟩
  obtain ⟨hq, hM, hR, hW⟩ := hI
  have hLb := hq.wb
  have hx0 := hq.1
  have hm0 := hM.1
  have hpa : ∀ i, i < sn S → ∀ x ∈ sp S i, x < sn S := hW.1.1
  have hhd : ∀ q ∈ sh S, q.1 < sn S := hW.1.2.2.2
  have hbn : ∀ d, d < (sd S).length → bd (sd S) d < 2 ^ sn S := hW.1.2.2.1
  have hsT : sT S ≤ 1000 := hW.2.2.1
  have hsa : sA S ≤ 40 := hW.2.2.2
  refine xaload_n hx hb dL_law_594 hl rfl ?_
  refine xaload_n hx hb dL_law_595 hl rfl ?_
  refine xiload_n hx hb dL_law_596 hl rfl ?_
  refine lv_iconst (v := nI 1) hx hb dL_law_597 (by decide) ?_
  refine xadd hx hb dL_law_598 ?_
  refine xsld hx hb hX hbl hbA hS (by omega) hL dL_law_599 ?_
  refine xaload_n hx hb dL_law_600 hl rfl ?_
  refine xiload_n hx hb dL_law_601 hl rfl ?_
  refine lv_iconst (v := nI 2) hx hb dL_law_602 (by decide) ?_
  refine xadd hx hb dL_law_603 ?_
  refine xsld hx hb hX hbl hbA hS (by omega) hL dL_law_604 ?_
  refine xaload_n hx hb dL_law_605 hl rfl ?_
  refine xiload_n hx hb dL_law_606 hl rfl ?_
  refine lv_iconst (v := nI 3) hx hb dL_law_607 (by decide) ?_
  refine xadd hx hb dL_law_608 ?_
  refine xsld hx hb hX hbl hbA hS (by omega) hL dL_law_609 ?_
  refine xVi ⟨hx, hb, hml, hown, hts⟩ (kX11_hands l s.heap.size G w s.heap.size (s.heap.size + 72) S hq hW (by omega) (xs (4 * k + 1)) (xs (4 * k + 2)) (xs (4 * k + 3))) (cwV 3 hts gL_law_X11_hands rfl rfl rfl (by decide +kernel) ⟨Nat.le_of_ble_eq_true rfl, Nat.le_of_ble_eq_true rfl⟩) hG hN hw hS (ci := 11) hx0 rfl rfl hl.1 rfl (Nat.le_of_ble_eq_true rfl) dL_law_610 ⟨by show _ ≤ 600000; omega, by show _ ≤ 7302250; omega⟩ (fun r1 w1 H locs hp1 hw hS => ?_)
  obtain ⟨rfl, hq1, hO1⟩ := hp1
  have hM1 := hM.out hO1 (Or.inr (by omega))
  have hm1 := hM1.1
  refine xaload_n hx hb dL_law_613 hl rfl ?_
  refine xaload_n hx hb dL_law_614 hl rfl ?_
  refine xiload_n hx hb dL_law_615 hl rfl ?_
  refine lv_iconst (v := nI 1) hx hb dL_law_616 (by decide) ?_
  refine xadd hx hb dL_law_617 ?_
  refine xsld hx hb hX hbl hbA hS (by omega) hL dL_law_618 ?_
  refine xaload_n hx hb dL_law_619 hl rfl ?_
  refine xiload_n hx hb dL_law_620 hl rfl ?_
  refine lv_iconst (v := nI 2) hx hb dL_law_621 (by decide) ?_
  refine xadd hx hb dL_law_622 ?_
  refine xsld hx hb hX hbl hbA hS (by omega) hL dL_law_623 ?_
  refine xaload_n hx hb dL_law_624 hl rfl ?_
  refine xiload_n hx hb dL_law_625 hl rfl ?_
  refine lv_iconst (v := nI 3) hx hb dL_law_626 (by decide) ?_
  refine xadd hx hb dL_law_627 ?_
  refine xsld hx hb hX hbl hbA hS (by omega) hL dL_law_628 ?_
  refine xVi ⟨hx, hb, hml, hown, hts⟩ (kX12_hands l s.heap.size G _ (s.heap.size + 52) V A hM1 S hR hLb hpa hhd (xs (4 * k + 1)) (xs (4 * k + 2)) (xs (4 * k + 3))) (cwV 3 hts gL_law_X12_hands rfl rfl rfl (by decide +kernel) ⟨Nat.le_of_ble_eq_true rfl, Nat.le_of_ble_eq_true rfl⟩) hG hN hw hS (ci := 12) hm1 rfl rfl hl.1 rfl (Nat.le_of_ble_eq_true rfl) dL_law_629 ⟨by show _ ≤ 600000; omega, by show _ ≤ 7302250; omega⟩ (fun r2 w2 H locs hp2 hw hS => ?_)
  obtain ⟨rfl, ⟨V2, A2, hM2, hR2⟩, hO2⟩ := hp2
  refine lv_icmp_eq (tgt := 776) hx hb dL_law_632 (by decide) (fun _ => ?_) (fun q => absurd rfl q)
  refine W.widen (k := cells + 5) (n := slots + 5) (by omega) (by omega) ?_
  exact kk S V2 A2 _ _ _ ⟨(hq1.out hO2 (by omega) (by omega)), hM2, hR2, hW⟩ (Nat.le_succ_of_le hT) hw hS
set_option maxHeartbeats 4000000 in
set_option maxRecDepth 100000 in
theorem lc_ask {p : Program} {l : Launch} {e : Env} {s : State} {m : MethodId} {below : List Frame} {meth : Method} {c : Code} {G : XG} {b L k : Nat} {xs : Nat → Int32} {Q : State → Prop} {H : Heap} {locs : List Loc} {ls : Array Slot} {w : Wd} {V : Nat → Value} {A : Nat → Nat → Int32} {S : QS} {cells slots : Nat} (C0 : lw_At p s m meth c b L xs) (hG : GK G s) (hK : SK s.heap.size G s s.heap) (hi : 4 * k + 4 ≤ L) (hL : L ≤ 256) (hc : cells + 5 ≤ 600000 ∧ slots + 5 ≤ 7302250) (hI : LI G w s.heap.size S V A) (hT : sT S ≤ k) (hw : PW s.heap.size G w H) (hS : va_S (fun q => s.heap.size ≤ q) s.heap H locs) (hl : lh ls 4 [some (.ref b), some (.ref s.heap.size), some (.ref (s.heap.size + 52)), some (.int (nI (4 * k)))]) (kk : ∀ (S1 : QS) (V1 : Nat → Value) (A1 : Nat → Nat → Int32) (w1 : Wd) (H1 : Heap) (locs1 : List Loc), LI G w1 s.heap.size S1 V1 A1 → sT S1 ≤ k + 1 → PW s.heap.size G w1 H1 → va_S (fun q => s.heap.size ≤ q) s.heap H1 locs1 → W p l e room_1 s m #[Value.ref b] below meth c H1 locs1 (cells + 5) (slots + 5) Q (F0 m 776 ls [])) : W p l e room_1 s m #[Value.ref b] below meth c H locs cells slots Q (F0 m 637 ls []) := by
  obtain ⟨hx, hb, hr, hml, hown, hts0, hX, hbl, hlocks, hgv⟩ := id C0
  have hb : c.code = cL_law := hb
  have hown : s.vm.findClass RL = some m.cls := hown
  have hts : ∀ x ∈ wsL_law, x.before #[Value.ref b] s = true := fun x h => hts0 x (wsL_law_in x h)
  have hbA : ¬ (fun q : Nat => s.heap.size ≤ q) b := Nat.not_le.mpr hbl
  have hN : s.heap.size ≤ s.heap.size ∧ SK s.heap.size G s s.heap := ⟨Nat.le_refl _, hK⟩
  obtain ⟨hq, hM, hR, hW⟩ := hI
  have hLb := hq.wb
  have hx0 := hq.1
  have hm0 := hM.1
  have hpa : ∀ i, i < sn S → ∀ x ∈ sp S i, x < sn S := hW.1.1
  have hhd : ∀ q ∈ sh S, q.1 < sn S := hW.1.2.2.2
  have hbn : ∀ d, d < (sd S).length → bd (sd S) d < 2 ^ sn S := hW.1.2.2.1
  have hsT : sT S ≤ 1000 := hW.2.2.1
  have hsa : sA S ≤ 40 := hW.2.2.2
  refine xaload_n hx hb dL_law_637 hl rfl ?_
  refine xaload_n hx hb dL_law_638 hl rfl ?_
  refine xiload_n hx hb dL_law_639 hl rfl ?_
  refine lv_iconst (v := nI 1) hx hb dL_law_640 (by decide) ?_
  refine xadd hx hb dL_law_641 ?_
  refine xsld hx hb hX hbl hbA hS (by omega) hL dL_law_642 ?_
  refine xaload_n hx hb dL_law_643 hl rfl ?_
  refine xiload_n hx hb dL_law_644 hl rfl ?_
  refine lv_iconst (v := nI 2) hx hb dL_law_645 (by decide) ?_
  refine xadd hx hb dL_law_646 ?_
  refine xsld hx hb hX hbl hbA hS (by omega) hL dL_law_647 ?_
  refine xVi ⟨hx, hb, hml, hown, hts⟩ (kX11_ask l s.heap.size G w s.heap.size (s.heap.size + 72) S hq hW (by omega) (xs (4 * k + 1)) (xs (4 * k + 2))) (cwV 2 hts gL_law_X11_ask rfl rfl rfl (by decide +kernel) ⟨Nat.le_of_ble_eq_true rfl, Nat.le_of_ble_eq_true rfl⟩) hG hN hw hS (ci := 11) hx0 rfl rfl hl.1 rfl (Nat.le_of_ble_eq_true rfl) dL_law_648 ⟨by show _ ≤ 600000; omega, by show _ ≤ 7302250; omega⟩ (fun r1 w1 H locs hp1 hw hS => ?_)
  obtain ⟨rfl, hq1, hO1⟩ := hp1
  have hM1 := hM.out hO1 (Or.inr (by omega))
  have hm1 := hM1.1
  refine xaload_n hx hb dL_law_651 hl rfl ?_
  refine xaload_n hx hb dL_law_652 hl rfl ?_
  refine xiload_n hx hb dL_law_653 hl rfl ?_
  refine lv_iconst (v := nI 1) hx hb dL_law_654 (by decide) ?_
  refine xadd hx hb dL_law_655 ?_
  refine xsld hx hb hX hbl hbA hS (by omega) hL dL_law_656 ?_
  refine xaload_n hx hb dL_law_657 hl rfl ?_
  refine xiload_n hx hb dL_law_658 hl rfl ?_
  refine lv_iconst (v := nI 2) hx hb dL_law_659 (by decide) ?_
  refine xadd hx hb dL_law_660 ?_
  refine xsld hx hb hX hbl hbA hS (by omega) hL dL_law_661 ?_
  refine xVi ⟨hx, hb, hml, hown, hts⟩ (kX12_ask l s.heap.size G _ (s.heap.size + 52) V A hM1 S hR hLb hpa hhd (xs (4 * k + 1)) (xs (4 * k + 2))) (cwV 2 hts gL_law_X12_ask rfl rfl rfl (by decide +kernel) ⟨Nat.le_of_ble_eq_true rfl, Nat.le_of_ble_eq_true rfl⟩) hG hN hw hS (ci := 12) hm1 rfl rfl hl.1 rfl (Nat.le_of_ble_eq_true rfl) dL_law_662 ⟨by show _ ≤ 600000; omega, by show _ ≤ 7302250; omega⟩ (fun r2 w2 H locs hp2 hw hS => ?_)
  obtain ⟨rfl, ⟨V2, A2, hM2, hR2⟩, hO2⟩ := hp2
  refine lv_icmp_eq (tgt := 776) hx hb dL_law_665 (by decide) (fun _ => ?_) (fun q => absurd rfl q)
  refine W.widen (k := cells + 5) (n := slots + 5) (by omega) (by omega) ?_
  exact kk S V2 A2 _ _ _ ⟨(hq1.out hO2 (by omega) (by omega)), hM2, hR2, hW⟩ (Nat.le_succ_of_le hT) hw hS
set_option maxHeartbeats 4000000 in
set_option maxRecDepth 100000 in
theorem lc_fairs {p : Program} {l : Launch} {e : Env} {s : State} {m : MethodId} {below : List Frame} {meth : Method} {c : Code} {G : XG} {b L k : Nat} {xs : Nat → Int32} {Q : State → Prop} {H : Heap} {locs : List Loc} {ls : Array Slot} {w : Wd} {V : Nat → Value} {A : Nat → Nat → Int32} {S : QS} {cells slots : Nat} (C0 : lw_At p s m meth c b L xs) (hG : GK G s) (hK : SK s.heap.size G s s.heap) (hi : 4 * k + 4 ≤ L) (hL : L ≤ 256) (hc : cells + 5 ≤ 600000 ∧ slots + 5 ≤ 7302250) (hI : LI G w s.heap.size S V A) (hT : sT S ≤ k) (hw : PW s.heap.size G w H) (hS : va_S (fun q => s.heap.size ≤ q) s.heap H locs) (hl : lh ls 4 [some (.ref b), some (.ref s.heap.size), some (.ref (s.heap.size + 52)), some (.int (nI (4 * k)))]) (kk : ∀ (S1 : QS) (V1 : Nat → Value) (A1 : Nat → Nat → Int32) (w1 : Wd) (H1 : Heap) (locs1 : List Loc), LI G w1 s.heap.size S1 V1 A1 → sT S1 ≤ k + 1 → PW s.heap.size G w1 H1 → va_S (fun q => s.heap.size ≤ q) s.heap H1 locs1 → W p l e room_1 s m #[Value.ref b] below meth c H1 locs1 (cells + 5) (slots + 5) Q (F0 m 776 ls [])) : W p l e room_1 s m #[Value.ref b] below meth c H locs cells slots Q (F0 m 670 ls []) := by
  obtain ⟨hx, hb, hr, hml, hown, hts0, hX, hbl, hlocks, hgv⟩ := id C0
  have hb : c.code = cL_law := hb
  have hown : s.vm.findClass RL = some m.cls := hown
  have hts : ∀ x ∈ wsL_law, x.before #[Value.ref b] s = true := fun x h => hts0 x (wsL_law_in x h)
  have hbA : ¬ (fun q : Nat => s.heap.size ≤ q) b := Nat.not_le.mpr hbl
  have hN : s.heap.size ≤ s.heap.size ∧ SK s.heap.size G s s.heap := ⟨Nat.le_refl _, hK⟩
  obtain ⟨hq, hM, hR, hW⟩ := hI
  have hLb := hq.wb
  have hx0 := hq.1
  have hm0 := hM.1
  have hpa : ∀ i, i < sn S → ∀ x ∈ sp S i, x < sn S := hW.1.1
  have hhd : ∀ q ∈ sh S, q.1 < sn S := hW.1.2.2.2
  have hbn : ∀ d, d < (sd S).length → bd (sd S) d < 2 ^ sn S := hW.1.2.2.1
  have hsT : sT S ≤ 1000 := hW.2.2.1
  have hsa : sA S ≤ 40 := hW.2.2.2
  refine xaload_n hx hb dL_law_670 hl rfl ?_
  refine xaload_n hx hb dL_law_671 hl rfl ?_
  refine xiload_n hx hb dL_law_672 hl rfl ?_
  refine lv_iconst (v := nI 1) hx hb dL_law_673 (by decide) ?_
  refine xadd hx hb dL_law_674 ?_
  refine xsld hx hb hX hbl hbA hS (by omega) hL dL_law_675 ?_
  refine xaload_n hx hb dL_law_676 hl rfl ?_
  refine xiload_n hx hb dL_law_677 hl rfl ?_
  refine lv_iconst (v := nI 2) hx hb dL_law_678 (by decide) ?_
  refine xadd hx hb dL_law_679 ?_
  refine xsld hx hb hX hbl hbA hS (by omega) hL dL_law_680 ?_
  refine xaload_n hx hb dL_law_681 hl rfl ?_
  refine xiload_n hx hb dL_law_682 hl rfl ?_
  refine lv_iconst (v := nI 3) hx hb dL_law_683 (by decide) ?_
  refine xadd hx hb dL_law_684 ?_
  refine xsld hx hb hX hbl hbA hS (by omega) hL dL_law_685 ?_
  refine xVi ⟨hx, hb, hml, hown, hts⟩ (kX11_fairs l s.heap.size G w s.heap.size (s.heap.size + 72) S hq hW (by omega) (xs (4 * k + 1)) (xs (4 * k + 2)) (xs (4 * k + 3))) (cwV 3 hts gL_law_X11_fairs rfl rfl rfl (by decide +kernel) ⟨Nat.le_of_ble_eq_true rfl, Nat.le_of_ble_eq_true rfl⟩) hG hN hw hS (ci := 11) hx0 rfl rfl hl.1 rfl (Nat.le_of_ble_eq_true rfl) dL_law_686 ⟨by show _ ≤ 600000; omega, by show _ ≤ 7302250; omega⟩ (fun r1 w1 H locs hp1 hw hS => ?_)
  obtain ⟨rfl, hq1, hO1⟩ := hp1
  have hM1 := hM.out hO1 (Or.inr (by omega))
  have hm1 := hM1.1
  refine xaload_n hx hb dL_law_689 hl rfl ?_
  refine xaload_n hx hb dL_law_690 hl rfl ?_
  refine xiload_n hx hb dL_law_691 hl rfl ?_
  refine lv_iconst (v := nI 1) hx hb dL_law_692 (by decide) ?_
  refine xadd hx hb dL_law_693 ?_
  refine xsld hx hb hX hbl hbA hS (by omega) hL dL_law_694 ?_
  refine xaload_n hx hb dL_law_695 hl rfl ?_
  refine xiload_n hx hb dL_law_696 hl rfl ?_
  refine lv_iconst (v := nI 2) hx hb dL_law_697 (by decide) ?_
  refine xadd hx hb dL_law_698 ?_
  refine xsld hx hb hX hbl hbA hS (by omega) hL dL_law_699 ?_
  refine xaload_n hx hb dL_law_700 hl rfl ?_
  refine xiload_n hx hb dL_law_701 hl rfl ?_
  refine lv_iconst (v := nI 3) hx hb dL_law_702 (by decide) ?_
  refine xadd hx hb dL_law_703 ?_
  refine xsld hx hb hX hbl hbA hS (by omega) hL dL_law_704 ?_
  refine xVi ⟨hx, hb, hml, hown, hts⟩ (kX12_fairs l s.heap.size G _ (s.heap.size + 52) V A hM1 S hR hLb hpa (xs (4 * k + 1)) (xs (4 * k + 2)) (xs (4 * k + 3))) (cwV 3 hts gL_law_X12_fairs rfl rfl rfl (by decide +kernel) ⟨Nat.le_of_ble_eq_true rfl, Nat.le_of_ble_eq_true rfl⟩) hG hN hw hS (ci := 12) hm1 rfl rfl hl.1 rfl (Nat.le_of_ble_eq_true rfl) dL_law_705 ⟨by show _ ≤ 600000; omega, by show _ ≤ 7302250; omega⟩ (fun r2 w2 H locs hp2 hw hS => ?_)
  obtain ⟨rfl, ⟨V2, A2, hM2, hR2⟩, hO2⟩ := hp2
  refine lv_icmp_eq (tgt := 776) hx hb dL_law_708 (by decide) (fun _ => ?_) (fun q => absurd rfl q)
  refine W.widen (k := cells + 5) (n := slots + 5) (by omega) (by omega) ?_
  exact kk S V2 A2 _ _ _ ⟨(hq1.out hO2 (by omega) (by omega)), hM2, hR2, hW⟩ (Nat.le_succ_of_le hT) hw hS
set_option maxHeartbeats 4000000 in
set_option maxRecDepth 100000 in
theorem lc_image {p : Program} {l : Launch} {e : Env} {s : State} {m : MethodId} {below : List Frame} {meth : Method} {c : Code} {G : XG} {b L k : Nat} {xs : Nat → Int32} {Q : State → Prop} {H : Heap} {locs : List Loc} {ls : Array Slot} {w : Wd} {V : Nat → Value} {A : Nat → Nat → Int32} {S : QS} {cells slots : Nat} (C0 : lw_At p s m meth c b L xs) (hG : GK G s) (hK : SK s.heap.size G s s.heap) (hi : 4 * k + 4 ≤ L) (hL : L ≤ 256) (hc : cells + 5 ≤ 600000 ∧ slots + 5 ≤ 7302250) (hI : LI G w s.heap.size S V A) (hT : sT S ≤ k) (hw : PW s.heap.size G w H) (hS : va_S (fun q => s.heap.size ≤ q) s.heap H locs) (hl : lh ls 4 [some (.ref b), some (.ref s.heap.size), some (.ref (s.heap.size + 52)), some (.int (nI (4 * k)))]) (kk : ∀ (S1 : QS) (V1 : Nat → Value) (A1 : Nat → Nat → Int32) (w1 : Wd) (H1 : Heap) (locs1 : List Loc), LI G w1 s.heap.size S1 V1 A1 → sT S1 ≤ k + 1 → PW s.heap.size G w1 H1 → va_S (fun q => s.heap.size ≤ q) s.heap H1 locs1 → W p l e room_1 s m #[Value.ref b] below meth c H1 locs1 (cells + 5) (slots + 5) Q (F0 m 776 ls [])) : W p l e room_1 s m #[Value.ref b] below meth c H locs cells slots Q (F0 m 713 ls []) := by
  obtain ⟨hx, hb, hr, hml, hown, hts0, hX, hbl, hlocks, hgv⟩ := id C0
  have hb : c.code = cL_law := hb
  have hown : s.vm.findClass RL = some m.cls := hown
  have hts : ∀ x ∈ wsL_law, x.before #[Value.ref b] s = true := fun x h => hts0 x (wsL_law_in x h)
  have hbA : ¬ (fun q : Nat => s.heap.size ≤ q) b := Nat.not_le.mpr hbl
  have hN : s.heap.size ≤ s.heap.size ∧ SK s.heap.size G s s.heap := ⟨Nat.le_refl _, hK⟩
  obtain ⟨hq, hM, hR, hW⟩ := hI
  have hLb := hq.wb
  have hx0 := hq.1
  have hm0 := hM.1
  have hpa : ∀ i, i < sn S → ∀ x ∈ sp S i, x < sn S := hW.1.1
  have hhd : ∀ q ∈ sh S, q.1 < sn S := hW.1.2.2.2
  have hbn : ∀ d, d < (sd S).length → bd (sd S) d < 2 ^ sn S := hW.1.2.2.1
  have hsT : sT S ≤ 1000 := hW.2.2.1
  have hsa : sA S ≤ 40 := hW.2.2.2
  refine xaload_n hx hb dL_law_713 hl rfl ?_
  refine xVi ⟨hx, hb, hml, hown, hts⟩ (kX11_image l s.heap.size G w s.heap.size (s.heap.size + 72) S hq hW (by omega)) (cwV 0 hts gL_law_X11_image rfl rfl rfl (by decide +kernel) ⟨Nat.le_of_ble_eq_true rfl, Nat.le_of_ble_eq_true rfl⟩) hG hN hw hS (ci := 11) hx0 rfl rfl hl.1 rfl (Nat.le_of_ble_eq_true rfl) dL_law_714 ⟨by show _ ≤ 600000; omega, by show _ ≤ 7302250; omega⟩ (fun r1 w1 H locs hp1 hw hS => ?_)
  obtain ⟨rfl, hq1, hO1⟩ := hp1
  have hM1 := hM.out hO1 (Or.inr (by omega))
  have hm1 := hM1.1
  refine xaload_n hx hb dL_law_717 hl rfl ?_
  refine xVi ⟨hx, hb, hml, hown, hts⟩ (kX12_image l s.heap.size G _ (s.heap.size + 52) V A hM1 S hR hLb) (cwV 0 hts gL_law_X12_image rfl rfl rfl (by decide +kernel) ⟨Nat.le_of_ble_eq_true rfl, Nat.le_of_ble_eq_true rfl⟩) hG hN hw hS (ci := 12) hm1 rfl rfl hl.1 rfl (Nat.le_of_ble_eq_true rfl) dL_law_718 ⟨by show _ ≤ 600000; omega, by show _ ≤ 7302250; omega⟩ (fun r2 w2 H locs hp2 hw hS => ?_)
  obtain ⟨rfl, ⟨V2, A2, hM2, hR2⟩, hO2⟩ := hp2
  refine lv_icmp_eq (tgt := 776) hx hb dL_law_721 (by decide) (fun _ => ?_) (fun q => absurd rfl q)
  refine W.widen (k := cells + 5) (n := slots + 5) (by omega) (by omega) ?_
  exact kk (o_image S).2 V2 A2 _ _ _ ⟨(hq1.out hO2 (by omega) (by omega)), hM2, hR2, (gq_image hW hT).1⟩ (gq_image hW hT).2 hw hS
set_option maxHeartbeats 4000000 in
set_option maxRecDepth 100000 in
theorem lc_restore {p : Program} {l : Launch} {e : Env} {s : State} {m : MethodId} {below : List Frame} {meth : Method} {c : Code} {G : XG} {b L k : Nat} {xs : Nat → Int32} {Q : State → Prop} {H : Heap} {locs : List Loc} {ls : Array Slot} {w : Wd} {V : Nat → Value} {A : Nat → Nat → Int32} {S : QS} {cells slots : Nat} (C0 : lw_At p s m meth c b L xs) (hG : GK G s) (hK : SK s.heap.size G s s.heap) (hi : 4 * k + 4 ≤ L) (hL : L ≤ 256) (hc : cells + 5 ≤ 600000 ∧ slots + 5 ≤ 7302250) (hI : LI G w s.heap.size S V A) (hT : sT S ≤ k) (hw : PW s.heap.size G w H) (hS : va_S (fun q => s.heap.size ≤ q) s.heap H locs) (hl : lh ls 4 [some (.ref b), some (.ref s.heap.size), some (.ref (s.heap.size + 52)), some (.int (nI (4 * k)))]) (kk : ∀ (S1 : QS) (V1 : Nat → Value) (A1 : Nat → Nat → Int32) (w1 : Wd) (H1 : Heap) (locs1 : List Loc), LI G w1 s.heap.size S1 V1 A1 → sT S1 ≤ k + 1 → PW s.heap.size G w1 H1 → va_S (fun q => s.heap.size ≤ q) s.heap H1 locs1 → W p l e room_1 s m #[Value.ref b] below meth c H1 locs1 (cells + 5) (slots + 5) Q (F0 m 776 ls [])) : W p l e room_1 s m #[Value.ref b] below meth c H locs cells slots Q (F0 m 726 ls []) := by
  obtain ⟨hx, hb, hr, hml, hown, hts0, hX, hbl, hlocks, hgv⟩ := id C0
  have hb : c.code = cL_law := hb
  have hown : s.vm.findClass RL = some m.cls := hown
  have hts : ∀ x ∈ wsL_law, x.before #[Value.ref b] s = true := fun x h => hts0 x (wsL_law_in x h)
  have hbA : ¬ (fun q : Nat => s.heap.size ≤ q) b := Nat.not_le.mpr hbl
  have hN : s.heap.size ≤ s.heap.size ∧ SK s.heap.size G s s.heap := ⟨Nat.le_refl _, hK⟩
  obtain ⟨hq, hM, hR, hW⟩ := hI
  have hLb := hq.wb
  have hx0 := hq.1
  have hm0 := hM.1
  have hpa : ∀ i, i < sn S → ∀ x ∈ sp S i, x < sn S := hW.1.1
  have hhd : ∀ q ∈ sh S, q.1 < sn S := hW.1.2.2.2
  have hbn : ∀ d, d < (sd S).length → bd (sd S) d < 2 ^ sn S := hW.1.2.2.1
  have hsT : sT S ≤ 1000 := hW.2.2.1
  have hsa : sA S ≤ 40 := hW.2.2.2
  refine xaload_n hx hb dL_law_726 hl rfl ?_
  refine xVi ⟨hx, hb, hml, hown, hts⟩ (kX11_restore l s.heap.size G w s.heap.size (s.heap.size + 72) S hq hW (by omega)) (cwV 0 hts gL_law_X11_restore rfl rfl rfl (by decide +kernel) ⟨Nat.le_of_ble_eq_true rfl, Nat.le_of_ble_eq_true rfl⟩) hG hN hw hS (ci := 11) hx0 rfl rfl hl.1 rfl (Nat.le_of_ble_eq_true rfl) dL_law_727 ⟨by show _ ≤ 600000; omega, by show _ ≤ 7302250; omega⟩ (fun r1 w1 H locs hp1 hw hS => ?_)
  obtain ⟨rfl, hq1, hO1⟩ := hp1
  have hM1 := hM.out hO1 (Or.inr (by omega))
  have hm1 := hM1.1
  have hL9 := hq1.wb
  refine xaload_n hx hb dL_law_730 hl rfl ?_
  refine xVi ⟨hx, hb, hml, hown, hts⟩ (kX12_restore l s.heap.size G _ (s.heap.size + 52) V A hM1 S hR hLb hsT hL9) (cwV 0 hts gL_law_X12_restore rfl rfl rfl (by decide +kernel) ⟨Nat.le_of_ble_eq_true rfl, Nat.le_of_ble_eq_true rfl⟩) hG hN hw hS (ci := 12) hm1 rfl rfl hl.1 rfl (Nat.le_of_ble_eq_true rfl) dL_law_731 ⟨by show _ ≤ 600000; omega, by show _ ≤ 7302250; omega⟩ (fun r2 w2 H locs hp2 hw hS => ?_)
  obtain ⟨rfl, ⟨V2, A2, hM2, hR2⟩, hO2⟩ := hp2
  refine lv_icmp_eq (tgt := 776) hx hb dL_law_734 (by decide) (fun _ => ?_) (fun q => absurd rfl q)
  refine W.widen (k := cells + 5) (n := slots + 5) (by omega) (by omega) ?_
  exact kk (o_restore S).2 V2 A2 _ _ _ ⟨(hq1.out hO2 (by omega) (by omega)), hM2, hR2, (gq_restore hW hT).1⟩ (gq_restore hW hT).2 hw hS
set_option maxHeartbeats 4000000 in
set_option maxRecDepth 100000 in
theorem lc_count {p : Program} {l : Launch} {e : Env} {s : State} {m : MethodId} {below : List Frame} {meth : Method} {c : Code} {G : XG} {b L k : Nat} {xs : Nat → Int32} {Q : State → Prop} {H : Heap} {locs : List Loc} {ls : Array Slot} {w : Wd} {V : Nat → Value} {A : Nat → Nat → Int32} {S : QS} {cells slots : Nat} (C0 : lw_At p s m meth c b L xs) (hG : GK G s) (hK : SK s.heap.size G s s.heap) (hi : 4 * k + 4 ≤ L) (hL : L ≤ 256) (hc : cells + 5 ≤ 600000 ∧ slots + 5 ≤ 7302250) (hI : LI G w s.heap.size S V A) (hT : sT S ≤ k) (hw : PW s.heap.size G w H) (hS : va_S (fun q => s.heap.size ≤ q) s.heap H locs) (hl : lh ls 4 [some (.ref b), some (.ref s.heap.size), some (.ref (s.heap.size + 52)), some (.int (nI (4 * k)))]) (kk : ∀ (S1 : QS) (V1 : Nat → Value) (A1 : Nat → Nat → Int32) (w1 : Wd) (H1 : Heap) (locs1 : List Loc), LI G w1 s.heap.size S1 V1 A1 → sT S1 ≤ k + 1 → PW s.heap.size G w1 H1 → va_S (fun q => s.heap.size ≤ q) s.heap H1 locs1 → W p l e room_1 s m #[Value.ref b] below meth c H1 locs1 (cells + 5) (slots + 5) Q (F0 m 776 ls [])) : W p l e room_1 s m #[Value.ref b] below meth c H locs cells slots Q (F0 m 739 ls []) := by
  obtain ⟨hx, hb, hr, hml, hown, hts0, hX, hbl, hlocks, hgv⟩ := id C0
  have hb : c.code = cL_law := hb
  have hown : s.vm.findClass RL = some m.cls := hown
  have hts : ∀ x ∈ wsL_law, x.before #[Value.ref b] s = true := fun x h => hts0 x (wsL_law_in x h)
  have hbA : ¬ (fun q : Nat => s.heap.size ≤ q) b := Nat.not_le.mpr hbl
  have hN : s.heap.size ≤ s.heap.size ∧ SK s.heap.size G s s.heap := ⟨Nat.le_refl _, hK⟩
  obtain ⟨hq, hM, hR, hW⟩ := hI
  have hLb := hq.wb
  have hx0 := hq.1
  have hm0 := hM.1
  have hpa : ∀ i, i < sn S → ∀ x ∈ sp S i, x < sn S := hW.1.1
  have hhd : ∀ q ∈ sh S, q.1 < sn S := hW.1.2.2.2
  have hbn : ∀ d, d < (sd S).length → bd (sd S) d < 2 ^ sn S := hW.1.2.2.1
  have hsT : sT S ≤ 1000 := hW.2.2.1
  have hsa : sA S ≤ 40 := hW.2.2.2
  refine xaload_n hx hb dL_law_739 hl rfl ?_
  refine xaload_n hx hb dL_law_740 hl rfl ?_
  refine xiload_n hx hb dL_law_741 hl rfl ?_
  refine lv_iconst (v := nI 1) hx hb dL_law_742 (by decide) ?_
  refine xadd hx hb dL_law_743 ?_
  refine xsld hx hb hX hbl hbA hS (by omega) hL dL_law_744 ?_
  refine xVi ⟨hx, hb, hml, hown, hts⟩ (kX11_count l s.heap.size G w s.heap.size (s.heap.size + 72) S hq hW (by omega) (xs (4 * k + 1))) (cwV 1 hts gL_law_X11_count rfl rfl rfl (by decide +kernel) ⟨Nat.le_of_ble_eq_true rfl, Nat.le_of_ble_eq_true rfl⟩) hG hN hw hS (ci := 11) hx0 rfl rfl hl.1 rfl (Nat.le_of_ble_eq_true rfl) dL_law_745 ⟨by show _ ≤ 600000; omega, by show _ ≤ 7302250; omega⟩ (fun r1 w1 H locs hp1 hw hS => ?_)
  obtain ⟨rfl, rfl⟩ := hp1
  have hM1 := hM
  have hq1 := hq
  have hm1 := hM1.1
  refine xaload_n hx hb dL_law_748 hl rfl ?_
  refine xaload_n hx hb dL_law_749 hl rfl ?_
  refine xiload_n hx hb dL_law_750 hl rfl ?_
  refine lv_iconst (v := nI 1) hx hb dL_law_751 (by decide) ?_
  refine xadd hx hb dL_law_752 ?_
  refine xsld hx hb hX hbl hbA hS (by omega) hL dL_law_753 ?_
  refine xVi ⟨hx, hb, hml, hown, hts⟩ (kX12_count l s.heap.size G _ (s.heap.size + 52) V A hM1 S hR hLb (xs (4 * k + 1))) (cwV 1 hts gL_law_X12_count rfl rfl rfl (by decide +kernel) ⟨Nat.le_of_ble_eq_true rfl, Nat.le_of_ble_eq_true rfl⟩) hG hN hw hS (ci := 12) hm1 rfl rfl hl.1 rfl (Nat.le_of_ble_eq_true rfl) dL_law_754 ⟨by show _ ≤ 600000; omega, by show _ ≤ 7302250; omega⟩ (fun r2 w2 H locs hp2 hw hS => ?_)
  obtain ⟨rfl, rfl⟩ := hp2
  refine lv_icmp_eq (tgt := 776) hx hb dL_law_757 (by decide) (fun _ => ?_) (fun q => absurd rfl q)
  refine W.widen (k := cells + 5) (n := slots + 5) (by omega) (by omega) ?_
  exact kk S V A _ _ _ ⟨hq1, hM1, hR, hW⟩ (Nat.le_succ_of_le hT) hw hS
set_option maxHeartbeats 4000000 in
set_option maxRecDepth 100000 in
theorem lc_digest {p : Program} {l : Launch} {e : Env} {s : State} {m : MethodId} {below : List Frame} {meth : Method} {c : Code} {G : XG} {b L k : Nat} {xs : Nat → Int32} {Q : State → Prop} {H : Heap} {locs : List Loc} {ls : Array Slot} {w : Wd} {V : Nat → Value} {A : Nat → Nat → Int32} {S : QS} {cells slots : Nat} (C0 : lw_At p s m meth c b L xs) (hG : GK G s) (hK : SK s.heap.size G s s.heap) (hi : 4 * k + 4 ≤ L) (hL : L ≤ 256) (hc : cells + 5 ≤ 600000 ∧ slots + 5 ≤ 7302250) (hI : LI G w s.heap.size S V A) (hT : sT S ≤ k) (hw : PW s.heap.size G w H) (hS : va_S (fun q => s.heap.size ≤ q) s.heap H locs) (hl : lh ls 4 [some (.ref b), some (.ref s.heap.size), some (.ref (s.heap.size + 52)), some (.int (nI (4 * k)))]) (kk : ∀ (S1 : QS) (V1 : Nat → Value) (A1 : Nat → Nat → Int32) (w1 : Wd) (H1 : Heap) (locs1 : List Loc), LI G w1 s.heap.size S1 V1 A1 → sT S1 ≤ k + 1 → PW s.heap.size G w1 H1 → va_S (fun q => s.heap.size ≤ q) s.heap H1 locs1 → W p l e room_1 s m #[Value.ref b] below meth c H1 locs1 (cells + 5) (slots + 5) Q (F0 m 776 ls [])) : W p l e room_1 s m #[Value.ref b] below meth c H locs cells slots Q (F0 m 762 ls []) := by
  obtain ⟨hx, hb, hr, hml, hown, hts0, hX, hbl, hlocks, hgv⟩ := id C0
  have hb : c.code = cL_law := hb
  have hown : s.vm.findClass RL = some m.cls := hown
  have hts : ∀ x ∈ wsL_law, x.before #[Value.ref b] s = true := fun x h => hts0 x (wsL_law_in x h)
  have hbA : ¬ (fun q : Nat => s.heap.size ≤ q) b := Nat.not_le.mpr hbl
  have hN : s.heap.size ≤ s.heap.size ∧ SK s.heap.size G s s.heap := ⟨Nat.le_refl _, hK⟩
  obtain ⟨hq, hM, hR, hW⟩ := hI
  have hLb := hq.wb
  have hx0 := hq.1
  have hm0 := hM.1
  have hpa : ∀ i, i < sn S → ∀ x ∈ sp S i, x < sn S := hW.1.1
  have hhd : ∀ q ∈ sh S, q.1 < sn S := hW.1.2.2.2
  have hbn : ∀ d, d < (sd S).length → bd (sd S) d < 2 ^ sn S := hW.1.2.2.1
  have hsT : sT S ≤ 1000 := hW.2.2.1
  have hsa : sA S ≤ 40 := hW.2.2.2
  refine xaload_n hx hb dL_law_762 hl rfl ?_
  refine xVl ⟨hx, hb, hml, hown, hts⟩ (kX11_digest l s.heap.size G w s.heap.size (s.heap.size + 72) S hq hW (by omega)) (cwV 0 hts gL_law_X11_digest rfl rfl rfl (by decide +kernel) ⟨Nat.le_of_ble_eq_true rfl, Nat.le_of_ble_eq_true rfl⟩) hG hN hw hS (ci := 11) hx0 rfl rfl hl.1 rfl (Nat.le_of_ble_eq_true rfl) dL_law_763 ⟨by show _ ≤ 600000; omega, by show _ ≤ 7302250; omega⟩ (fun r1 w1 H locs hp1 hw hS => ?_)
  obtain ⟨rfl, hq1, hO1⟩ := hp1
  have hM1 := hM.out hO1 (Or.inr (by omega))
  have hm1 := hM1.1
  refine xaload_n hx hb dL_law_766 hl rfl ?_
  refine xVl ⟨hx, hb, hml, hown, hts⟩ (kX12_digest l s.heap.size G _ (s.heap.size + 52) V A hM1 S hR hLb hpa hhd hbn) (cwV 0 hts gL_law_X12_digest rfl rfl rfl (by decide +kernel) ⟨Nat.le_of_ble_eq_true rfl, Nat.le_of_ble_eq_true rfl⟩) hG hN hw hS (ci := 12) hm1 rfl rfl hl.1 rfl (Nat.le_of_ble_eq_true rfl) dL_law_767 ⟨by show _ ≤ 600000; omega, by show _ ≤ 7302250; omega⟩ (fun r2 w2 H locs hp2 hw hS => ?_)
  obtain ⟨rfl, ⟨V2, A2, hM2, hR2⟩, hO2⟩ := hp2
  refine W.lcmp hx hb dL_law_770 ?_
  refine xtop (y := nI 0) (by unfold lg_cmp; simp; rfl) ?_
  refine xif_eq (tgt := 776) hx hb dL_law_771 (by decide) (by omega) (fun _ => ?_) (fun q => absurd rfl q)
  refine W.widen (k := cells + 5) (n := slots + 5) (by omega) (by omega) ?_
  exact kk S V2 A2 _ _ _ ⟨(hq1.out hO2 (by omega) (by omega)), hM2, hR2, hW⟩ (Nat.le_succ_of_le hT) hw hS
