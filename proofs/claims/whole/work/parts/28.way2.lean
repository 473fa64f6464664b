theorem way_hit {P : PK} {lim st t c : Nat} {h : List Nat} {f : Int32} (h5 : P.length ≤ 5) (ht : t ≤ 4) (hno : ∀ d, d < t → reach P lim st d h = false) (hc : c < 5 ^ t) (hk : lok P lim st t h c = true) (hnc : ∀ d, d < c → lok P lim st t h d = false) (hf : f = if t = 0 then -1 else nI (c / 5 ^ (t - 1))) : wF P lim st h 5 = some t ∧ oI (wfst P lim st h t) = f := by
  constructor
  · unfold wF
    rw [List.find?_range_eq_some]
    refine ⟨?_, List.mem_range.mpr (by omega), fun d hd => by rw [hno d hd]; rfl⟩
    cases hr : reach P lim st t h with
    | true => rfl
    | false =>
      have h9 := (lok_none h5 t h).mpr hr c hc
      rw [h9] at hk
      cases hk
  · cases t with
    | zero => rw [hf]; rfl
    | succ t =>
      rw [lok_fst h5 hc hk hnc, hf, if_neg (by omega)]
      rfl
theorem way_miss {P : PK} {lim st : Nat} {h : List Nat} (hno : ∀ d, d < 5 → reach P lim st d h = false) : wF P lim st h 5 = none := by
  unfold wF
  rw [List.find?_eq_none]
  intro d hd
  rw [hno d (List.mem_range.mp hd)]
  decide
set_option maxHeartbeats 4000000 in
set_option maxRecDepth 100000 in
theorem kX12_wayNow (l : Launch) (N0 : Nat) (G : XG) (w : Wd) (M0 : Nat) (V : Nat → Value) (A : Nat → Nat → Int32) (hM : MW G w M0 V A) (S : QS) (hR : RM S V A) (hL : WB S) (i : Nat) (hi : i < sn S) (hall : ∀ x ∈ sp S i, x < sn S) (st z : Nat) (hst : st < 32) (hz2 : z < 2) : XM l yX12_wayNow wsX12_wayNow (rmD 4) N0 G [.ref M0, .int (nI i), .int (nI st), .int (nI z)] w vI (fun r w1 => wayV S i st z = r ∧ ∃ V1 A1, Vo V V1 ∧ MW G w1 M0 V1 A1 ∧ Nk A A1 i ∧ Out w w1 M0 (M0 + 20)) 0 0 := by
  refine XM.of (cc := cX12_wayNow) (maxL := 6) (ret := (some .int)) (by decide) rfl (Nat.le_of_ble_eq_true rfl) ?_
  intro p e s m below meth c hx hb hr hlk hin0 hml hown hts hN hw hG hS ls hl
  have hown : s.vm.findClass RX12 = some m.cls := hown
  have hiX12 : ∀ x ∈ u_ws RX12 TX12 37, x ∈ wsX12_wayNow := by decide +kernel
  have hlnk0 := hts (.fieldLink RX12 161 "LentQuillModel" "firstLent" "I") (by decide +kernel)
  have hl : lh ls 6 [some (.ref M0), some (.int (nI i)), some (.int (nI st)), some (.int (nI z)), none, none] := hl
  obtain ⟨hm0, ⟨hv3, hv4, hv5, hv6, hv8, hv9, hv11, hv12, hv15, hv18, hv19, hv20, hv24, hv30, hv31, hv32, hv33, hv34, hv35⟩, ha1, ha2, ha3, ha4, ha5, ha6, ha7, ha8, ha9, ha10, ha11, ha12, ha13, ha14, ha15, ha16, ha17, ha18, ha19⟩ := id hM
  obtain ⟨ht, hn, hlm, hdn, hhn, has, hpl, hkw, hRB, hpg, hkp⟩ := id hR
  obtain ⟨hn5, hl5, hkd, hsp, hd6, hdw, hh6, hg18, hgr, hIm⟩ := id hL
  refine lv_iconst (v := nI 0) hx hb dX12_wayNow_0 (by decide) ?_
  refine xistore hx hb dX12_wayNow_1 hl (by decide) rfl (fun ls hl => ?_)
  have loop3 : ∀ (nf : Nat) (t : Nat) (V1 : Nat → Value) (A1 : Nat → Nat → Int32) (w1 : Wd) (u : Option Value) (H : Heap) (locs : List Loc) (ls : Array Slot), 5 - t < nf → (t ≤ 5) → (∀ d, d < t → reach (sP S) (sL S) st d (sp S i) = false) → (Vo V V1) → (MW G w1 M0 V1 A1) → (Nk A A1 i) → (Out w w1 M0 (M0 + 20)) → PW N0 G w1 H → va_S (fun q => N0 ≤ q) s.heap H locs → lh ls 6 [some (.ref M0), some (.int (nI i)), some (.int (nI st)), some (.int (nI z)), some (.int (nI t)), u] → W p l e (rmD 4) s m ([.ref M0, .int (nI i), .int (nI st), .int (nI z)] : List Value).toArray below meth c H locs 0 0 (MQ below (XQ N0 G vI (fun r w1 => wayV S i st z = r ∧ ∃ V1 A1, Vo V V1 ∧ MW G w1 M0 V1 A1 ∧ Nk A A1 i ∧ Out w w1 M0 (M0 + 20))) ([.ref M0, .int (nI i), .int (nI st), .int (nI z)] : List Value).toArray s 0 0 (fun q => N0 ≤ q)) (F0 m 3 ls []) := by
    intro nf
    induction nf with
    | zero => intros; omega
    | succ nf ih3 =>
      intro t V1 A1 w1 u H locs ls hnf ht hno hV1 hM1 hN1 hO1 hw hS hl
      refine xiload hx hb dX12_wayNow_3 hl rfl ?_
      refine lv_iconst (v := nI 4) hx hb dX12_wayNow_5 (by decide) ?_
      first | refine xcmp_gt (tgt := 69) hx hb dX12_wayNow_6 (by decide) (by omega) (by omega) (fun c6 => ?_) (fun c6 => ?_) | refine lv_icmp_gt (tgt := 69) hx hb dX12_wayNow_6 (by decide) (fun c6 => ?_) (fun c6 => ?_)
      · skip
        refine lv_iconst (v := -1) hx hb dX12_wayNow_69 (by decide) ?_
        exact xiret hx hb hr hlk hw hS dX12_wayNow_70 ⟨by unfold wayV; rw [show wF (sP S) (sL S) st (sp S i) 5 = none from way_miss (fun d hd => hno d (by omega))]; split <;> rfl, V1, A1, hV1, hM1, hN1, hO1⟩
      · skip
        refine lv_iconst (v := nI 0) hx hb dX12_wayNow_9 (by decide) ?_
        refine xistore hx hb dX12_wayNow_10 hl (by decide) rfl (fun ls hl => ?_)
        have loop12 : ∀ (nf : Nat) (c1 : Nat) (V2 : Nat → Value) (A2 : Nat → Nat → Int32) (w2 : Wd) (H : Heap) (locs : List Loc) (ls : Array Slot), 5 ^ t - c1 < nf → (c1 ≤ 5 ^ t) → (∀ d, d < c1 → lok (sP S) (sL S) st t (sp S i) d = false) → (Vo V V2) → (MW G w2 M0 V2 A2) → (Nk A A2 i) → (Out w w2 M0 (M0 + 20)) → PW N0 G w2 H → va_S (fun q => N0 ≤ q) s.heap H locs → lh ls 6 [some (.ref M0), some (.int (nI i)), some (.int (nI st)), some (.int (nI z)), some (.int (nI t)), some (.int (nI c1))] → W p l e (rmD 4) s m ([.ref M0, .int (nI i), .int (nI st), .int (nI z)] : List Value).toArray below meth c H locs 0 0 (MQ below (XQ N0 G vI (fun r w1 => wayV S i st z = r ∧ ∃ V1 A1, Vo V V1 ∧ MW G w1 M0 V1 A1 ∧ Nk A A1 i ∧ Out w w1 M0 (M0 + 20))) ([.ref M0, .int (nI i), .int (nI st), .int (nI z)] : List Value).toArray s 0 0 (fun q => N0 ≤ q)) (F0 m 12 ls []) := by
          intro nf
          induction nf with
          | zero => intros; omega
          | succ nf ih12 =>
            intro c1 V2 A2 w2 H locs ls hnf hc1 hnc hV2 hM2 hN2 hO2 hw hS hl
            have hR2 := rm_vo (rm_nk hR hN2) hV2
            have hq625 := p5 (t := t) (by omega)
            have hm2c := hM2.1
            refine xiload hx hb dX12_wayNow_12 hl rfl ?_
            refine xiload hx hb dX12_wayNow_14 hl rfl ?_
            refine xSi ⟨hx, hb, hml, hown, hts⟩ (kX12_codes l N0 G _ t (by omega)) (va_cwS 1 hts gX12_wayNow_X12_codes rfl rfl rfl (by decide +kernel) ⟨Nat.le_of_ble_eq_true rfl, Nat.le_of_ble_eq_true rfl⟩) hG hN hw hS rfl hl.1 rfl (Nat.le_of_ble_eq_true rfl) dX12_wayNow_16 ⟨Nat.le_of_ble_eq_true rfl, Nat.le_of_ble_eq_true rfl⟩ (fun r16 w16 H locs hp16 hw hS => ?_)
            obtain ⟨rfl, rfl⟩ := hp16
            first | refine xcmp_ge (tgt := 63) hx hb dX12_wayNow_19 (by decide) (by omega) (by omega) (fun c19 => ?_) (fun c19 => ?_) | refine lv_icmp_ge (tgt := 63) hx hb dX12_wayNow_19 (by decide) (fun c19 => ?_) (fun c19 => ?_)
            · skip
              first | refine xiincN hx hb 1 dX12_wayNow_63 hl rfl (by decide) (by decide) rfl (fun ls hl => ?_) | refine xiinc hx hb dX12_wayNow_63 hl rfl rfl (by decide) rfl (fun ls hl => ?_)
              refine lv_goto (tgt := 3) hx hb dX12_wayNow_66 (by decide) ?_
              exact ih3 (t + 1) V2 A2 _ _ _ _ _ (by omega) (by omega) (fun d hd => by
                rcases (show d < t ∨ d = t by omega) with q | q
                · exact hno d q
                · rw [q]; exact (lok_none hn5 t (sp S i)).mp (fun e he => hnc e (by omega))) hV2 hM2 hN2 hO2 hw hS hl
            · skip
              refine xaload_n hx hb dX12_wayNow_22 hl rfl ?_
              refine xiload_n hx hb dX12_wayNow_23 hl rfl ?_
              refine xiload hx hb dX12_wayNow_24 hl rfl ?_
              refine xiload hx hb dX12_wayNow_26 hl rfl ?_
              refine xVi ⟨hx, hb, hml, hown, hts⟩ (kX12_lendBy l N0 G _ _ V2 A2 hM2 S hR2 hL i hi hall t c1 (by omega) (by omega)) (cwV 3 hts gX12_wayNow_X12_lendBy rfl rfl rfl (by decide +kernel) ⟨Nat.le_of_ble_eq_true rfl, Nat.le_of_ble_eq_true rfl⟩) hG hN hw hS (ci := 12) hM2.1 rfl rfl hl.1 rfl (Nat.le_of_ble_eq_true rfl) dX12_wayNow_28 ⟨Nat.le_of_ble_eq_true rfl, Nat.le_of_ble_eq_true rfl⟩ (fun r28 w28 H locs hp28 hw hS => ?_)
              obtain ⟨rfl, V3, A3, f, hV3, hf3, hM3, hN3, hg3, hO3⟩ := hp28
              have hm3c := hM3.1
              first | refine xifb_eq (tgt := 57) hx hb dX12_wayNow_31 (by decide) (fun c31 => ?_) (fun c31 => ?_) | refine xif_eq (tgt := 57) hx hb dX12_wayNow_31 (by decide) (by omega) (fun c31 => ?_) (fun c31 => ?_) | refine lv_if_eq (tgt := 57) hx hb dX12_wayNow_31 (by decide) (fun c31 => ?_) (fun c31 => ?_)
              · skip
                have hlk1 : lok (sP S) (sL S) st t (sp S i) c1 = false := by
                  unfold lok
                  first
                    | (rw [hge]; exact decide_eq_false c40)
                    | (cases hq : lby (sP S) t c1 (sp S i) with
                       | none => rfl
                       | some g => rw [hq] at c31; cases c31)
                first | refine xiincN hx hb 1 dX12_wayNow_57 hl rfl (by decide) (by decide) rfl (fun ls hl => ?_) | refine xiinc hx hb dX12_wayNow_57 hl rfl rfl (by decide) rfl (fun ls hl => ?_)
                refine lv_goto (tgt := 12) hx hb dX12_wayNow_60 (by decide) ?_
                exact ih12 (c1 + 1) V3 A3 _ _ _ _ (by omega) (by omega) (fun d hd => by
                  rcases (show d < c1 ∨ d = c1 by omega) with q | q
                  · exact hnc d q
                  · rw [q]; exact hlk1) (hV2.tr hV3) hM3 (hN2.tr hN3) (hO2.tr hO3 (Nat.le_refl _) (Nat.le_refl _)) hw hS hl
              · skip
                obtain ⟨g, hge⟩ := Option.isSome_iff_exists.mp c31
                obtain ⟨hT3, hfe, hg1, hgall⟩ := hg3 g hge
                have hR3 := rm_vo (rm_nk hR2 hN3) hV3
                have hddl := dd_len (n := 5) (h := g) (fun x hx => Nat.lt_of_lt_of_le (hgall x hx) hn5)
                have hb32 : bth (sP S) (sL S) (dd g) < 32 := bnd32 (lim := sL S) hgall hn5
                refine xaload_n hx hb dX12_wayNow_34 hl rfl ?_
                refine xiload_n hx hb dX12_wayNow_35 hl rfl ?_
                refine xVi ⟨hx, hb, hml, hown, hts⟩ (kX12_boundThought l N0 G _ _ V3 A3 hM3 S hR3 hL i hi (dd g) _ hT3 (fun x hx => hgall x (dd_sub _ hx)) hddl) (cwV 1 hts gX12_wayNow_X12_boundThought rfl rfl rfl (by decide +kernel) ⟨Nat.le_of_ble_eq_true rfl, Nat.le_of_ble_eq_true rfl⟩) hG hN hw hS (ci := 12) hM3.1 rfl rfl hl.1 rfl (Nat.le_of_ble_eq_true rfl) dX12_wayNow_36 ⟨Nat.le_of_ble_eq_true rfl, Nat.le_of_ble_eq_true rfl⟩ (fun r36 w36 H locs hp36 hw hS => ?_)
                obtain ⟨rfl, rfl⟩ := hp36
                refine xiload_n hx hb dX12_wayNow_39 hl rfl ?_
                first | refine xcmp_ne (tgt := 57) hx hb dX12_wayNow_40 (by decide) (by omega) (by omega) (fun c40 => ?_) (fun c40 => ?_) | refine lv_icmp_ne (tgt := 57) hx hb dX12_wayNow_40 (by decide) (fun c40 => ?_) (fun c40 => ?_)
                · skip
                  have hlk1 : lok (sP S) (sL S) st t (sp S i) c1 = false := by
                    unfold lok
                    first
                      | (rw [hge]; exact decide_eq_false c40)
                      | (cases hq : lby (sP S) t c1 (sp S i) with
                         | none => rfl
                         | some g => rw [hq] at c31; cases c31)
                  first | refine xiincN hx hb 1 dX12_wayNow_57 hl rfl (by decide) (by decide) rfl (fun ls hl => ?_) | refine xiinc hx hb dX12_wayNow_57 hl rfl rfl (by decide) rfl (fun ls hl => ?_)
                  refine lv_goto (tgt := 12) hx hb dX12_wayNow_60 (by decide) ?_
                  exact ih12 (c1 + 1) V3 A3 _ _ _ _ (by omega) (by omega) (fun d hd => by
                    rcases (show d < c1 ∨ d = c1 by omega) with q | q
                    · exact hnc d q
                    · rw [q]; exact hlk1) (hV2.tr hV3) hM3 (hN2.tr hN3) (hO2.tr hO3 (Nat.le_refl _) (Nat.le_refl _)) hw hS hl
                · skip
                  have hwf := way_hit (f := f) hn5 (by omega) hno (by omega) (show lok (sP S) (sL S) st t (sp S i) c1 = true by unfold lok; rw [hge]; exact decide_eq_true c40) hnc hfe
                  refine xiload_n hx hb dX12_wayNow_43 hl rfl ?_
                  first | refine xifb_ne (tgt := 52) hx hb dX12_wayNow_44 (by decide) (fun c44 => ?_) (fun c44 => ?_) | refine xif_ne (tgt := 52) hx hb dX12_wayNow_44 (by decide) (by omega) (fun c44 => ?_) (fun c44 => ?_) | refine lv_if_ne (tgt := 52) hx hb dX12_wayNow_44 (by decide) (fun c44 => ?_) (fun c44 => ?_)
                  · skip
                    refine xaload_n hx hb dX12_wayNow_52 hl rfl ?_
                    refine xgetM hx hb hts hiX12 hown hG hw hM3.1 21 (by decide) hlnk0 hf3 dX12_wayNow_53 ?_
                    exact xiret hx hb hr hlk hw hS dX12_wayNow_56 ⟨by unfold wayV; first | (rw [if_pos c44]; rw [show wF (sP S) (sL S) st (sp S i) 5 = some t from hwf.1]; rfl) | (rw [if_neg c44]; rw [show wF (sP S) (sL S) st (sp S i) 5 = some t from hwf.1]; exact hwf.2), V3, A3, hV2.tr hV3, hM3, hN2.tr hN3, hO2.tr hO3 (Nat.le_refl _) (Nat.le_refl _)⟩
                  · skip
                    refine xiload hx hb dX12_wayNow_47 hl rfl ?_
                    refine lv_goto (tgt := 56) hx hb dX12_wayNow_49 (by decide) ?_
                    exact xiret hx hb hr hlk hw hS dX12_wayNow_56 ⟨by unfold wayV; first | (rw [if_pos c44]; rw [show wF (sP S) (sL S) st (sp S i) 5 = some t from hwf.1]; rfl) | (rw [if_neg c44]; rw [show wF (sP S) (sL S) st (sp S i) 5 = some t from hwf.1]; exact hwf.2), V3, A3, hV2.tr hV3, hM3, hN2.tr hN3, hO2.tr hO3 (Nat.le_refl _) (Nat.le_refl _)⟩
        have hq626 := p5 (t := t) (by omega)
        exact loop12 (5 ^ t + 1) 0 V1 A1 _ _ _ _ (by omega) (by omega) (fun d hd => absurd hd (Nat.not_lt_zero d)) hV1 hM1 hN1 hO1 hw hS hl
  exact loop3 6 0 V A _ none _ _ _ (by omega) (by omega) (fun d hd => absurd hd (Nat.not_lt_zero d)) Vo.rf hM Nk.rf Out.rf hw hS hl
