theorem ty_bit (T b p : Nat) : nI (T + (if p < p ∧ b.testBit p = true then 1 else 0) + b / 2 ^ p % 2) = nI (T + (if p < p + 1 ∧ b.testBit p = true then 1 else 0)) := by
  rw [testBit_dm, if_neg (by omega)]
  congr 1
  by_cases z : b / 2 ^ p % 2 = 1
  · rw [if_pos ⟨by omega, decide_eq_true z⟩, z]
  · rw [if_neg (fun w => z (of_decide_eq_true w.2))]
    have := Nat.mod_lt (b / 2 ^ p) (show 0 < 2 by omega)
    omega
theorem ty_end {T b j n : Nat} (h : j < n) : nI (T + (if j < n ∧ b.testBit j = true then 1 else 0)) = nI (T + (if b.testBit j = true then 1 else 0)) := by
  by_cases z : b.testBit j = true
  · rw [if_pos z, if_pos ⟨h, z⟩]
  · rw [if_neg z, if_neg (fun w => z w.2)]
def Vh (V V1 : Nat → Value) : Prop := ∀ k, k ≠ 21 → k ≠ 22 → k ≠ 23 → V1 k = V k
def Ah (A A1 : Nat → Nat → Int32) : Prop := ∀ k, k ≠ 10 → k ≠ 11 → k ≠ 12 → k ≠ 13 → A1 k = A k
theorem Ah.s13 {A A1 : Nat → Nat → Int32} {f : Nat → Int32} (h : Ah A A1) : Ah A (va_up A1 13 f) := fun k a b c d => by rw [vup_ne _ _ d]; exact h k a b c d
theorem Ah.trN {A A1 A2 : Nat → Nat → Int32} {p : Nat} (h : Ah A A1) (h2 : Nk A1 A2 p) : Ah A A2 := fun k a b c d => (h2.1 k a b c).trans (h k a b c d)
theorem Tl.eqA {A A1 : Nat → Nat → Int32} {p : Nat} {L : List Nat} {g : Int32} (h : Tl A p L g) (h10 : A1 10 = A 10) (h11 : A1 11 = A 11) (h12 : A1 12 = A 12) : Tl A1 p L g := by
  unfold Tl
  rw [h10, h11, h12]
  exact h
def Ty (V : Nat → Value) (A : Nat → Nat → Int32) (n : Nat) (T : TS) : Prop := V 22 = .int (nI T.1) ∧ V 23 = .int (nI T.2.1) ∧ ∀ p, p < n → A 13 p = nI (T.2.2 p)
/-- the tally of the numbers below c -/
def tsC (P : PK) (lim : Nat) (hd : List (Nat × Bool)) (t : Nat) (h : List Nat) (c : Nat) : TS := ((List.range c).filterMap (fun d => lby P t d h)).foldl (t1 P lim hd) (0, 0, fun _ => 0)
theorem tsC_s {P : PK} {lim : Nat} {hd : List (Nat × Bool)} {t : Nat} {h : List Nat} {c : Nat} : tsC P lim hd t h (c + 1) = match lby P t c h with | none => tsC P lim hd t h c | some g => t1 P lim hd (tsC P lim hd t h c) g := by
  unfold tsC
  rw [List.range_succ, List.filterMap_append, List.foldl_append]
  cases hq : lby P t c h with
  | none => simp [hq]
  | some g => simp [hq]
theorem tsC_end {P : PK} {lim : Nat} {hd : List (Nat × Bool)} {t : Nat} {h : List Nat} (h5 : P.length ≤ 5) : tsC P lim hd t h (5 ^ t) = handS P lim hd t h := by
  unfold tsC handS
  rw [lby_ends h5]
theorem rm_h {S : QS} {V V1 : Nat → Value} {A A1 : Nat → Nat → Int32} (hR : RM S V A) (h : Vh V V1) (e : Ah A A1) : RM S V1 A1 := by
  obtain ⟨ht, hn, hlm, hdn, hhn, has, hpl, hkw, hRB, hpg, b, kt, h26, h27, hkt, hk1, hk2⟩ := hR
  have v : ∀ k, k < 21 ∨ 23 < k → V1 k = V k := fun k hk => h k (by omega) (by omega) (by omega)
  have a : ∀ k, k < 10 ∨ 13 < k → A1 k = A k := fun k hk => e k (by omega) (by omega) (by omega) (by omega)
  refine ⟨(v 0 (by omega)).trans ht, (v 1 (by omega)).trans hn, (v 2 (by omega)).trans hlm, (v 7 (by omega)).trans hdn, (v 10 (by omega)).trans hhn, (v 13 (by omega)).trans has, (v 14 (by omega)).trans hpl, fun i hi => ?_, ?_, fun i hi => ?_, b, kt, (v 26 (by omega)).trans h26, (v 27 (by omega)).trans h27, hkt, hk1, fun B hB => ?_⟩
  · rw [a 1 (by omega), a 2 (by omega)]; exact hkw i hi
  · rw [a 3 (by omega), a 4 (by omega), a 5 (by omega), a 6 (by omega), a 7 (by omega), a 8 (by omega)]; exact hRB
  · rw [a 9 (by omega)]; exact hpg i hi
  · obtain ⟨q1, q2, q3, q4, q5⟩ := hk2 B hB
    rw [a 14 (by omega), a 15 (by omega), a 16 (by omega), a 17 (by omega), a 18 (by omega), a 19 (by omega)]
    exact ⟨q1, q2, (v 28 (by omega)).trans q3, (v 29 (by omega)).trans q4, q5⟩
set_option maxHeartbeats 4000000 in
set_option maxRecDepth 100000 in
theorem kX12_layHands (l : Launch) (N0 : Nat) (G : XG) (w : Wd) (M0 : Nat) (V : Nat → Value) (A : Nat → Nat → Int32) (hM : MW G w M0 V A) (S : QS) (hR : RM S V A) (hL : WB S) (i : Nat) (hi : i < sn S) (hall : ∀ x ∈ sp S i, x < sn S) (hhd : ∀ q ∈ sh S, q.1 < sn S) (t : Nat) (ht4 : t ≤ 4) : XM l yX12_layHands wsX12_layHands (rmD 4) N0 G [.ref M0, .int (nI i), .int (nI t)] w vV (fun _ w1 => ∃ V1 A1, Vh V V1 ∧ Ah A A1 ∧ MW G w1 M0 V1 A1 ∧ Ty V1 A1 (sn S) (hndT S i t) ∧ Out w w1 M0 (M0 + 20)) 0 0 := by
  refine XM.of (cc := cX12_layHands) (maxL := 5) (ret := none) (by decide) rfl (Nat.le_of_ble_eq_true rfl) ?_
  intro p e s m below meth c hx hb hr hlk hin0 hml hown hts hN hw hG hS ls hl
  have hown : s.vm.findClass RX12 = some m.cls := hown
  have hiX12 : ∀ x ∈ u_ws RX12 TX12 37, x ∈ wsX12_layHands := by decide +kernel
  have hlnk0 := hts (.fieldLink RX12 190 "LentQuillModel" "wayMany" "I") (by decide +kernel)
  have hlnk1 := hts (.fieldLink RX12 193 "LentQuillModel" "wayHolders" "I") (by decide +kernel)
  have hlnk2 := hts (.fieldLink RX12 38 "LentQuillModel" "lastOf" "[I") (by decide +kernel)
  have hlnk3 := hts (.fieldLink RX12 94 "LentQuillModel" "people" "I") (by decide +kernel)
  have hlnk4 := hts (.fieldLink RX12 47 "LentQuillModel" "wayBound" "[I") (by decide +kernel)
  have hl : lh ls 5 [some (.ref M0), some (.int (nI i)), some (.int (nI t)), none, none] := hl
  obtain ⟨hm0, ⟨hv3, hv4, hv5, hv6, hv8, hv9, hv11, hv12, hv15, hv18, hv19, hv20, hv24, hv30, hv31, hv32, hv33, hv34, hv35⟩, ha1, ha2, ha3, ha4, ha5, ha6, ha7, ha8, ha9, ha10, ha11, ha12, ha13, ha14, ha15, ha16, ha17, ha18, ha19⟩ := id hM
  obtain ⟨ht, hn, hlm, hdn, hhn, has, hpl, hkw, hRB, hpg, hkp⟩ := id hR
  obtain ⟨hn5, hl5, hkd, hsp, hd6, hdw, hh6, hg18, hgr, hIm⟩ := id hL
  have hq625 := p5 ht4
  refine xaload_n hx hb dX12_layHands_0 hl rfl ?_
  refine lv_iconst (v := nI 0) hx hb dX12_layHands_1 (by decide) ?_
  refine xputM (ty := .int) hx hb hts hiX12 hown hG hw hS (by repeat first | assumption | exact wu_eq _ _ _ | refine wu_ne (by omega) ?_) 22 (by decide) hlnk0 rfl (by decide +kernel) rfl rfl dX12_layHands_2 (fun H locs hzz hw hS => ?_)
  refine xaload_n hx hb dX12_layHands_5 hl rfl ?_
  refine lv_iconst (v := nI 0) hx hb dX12_layHands_6 (by decide) ?_
  refine xputM (ty := .int) hx hb hts hiX12 hown hG hw hS (by repeat first | assumption | exact wu_eq _ _ _ | refine wu_ne (by omega) ?_) 23 (by decide) hlnk1 rfl (by decide +kernel) rfl rfl dX12_layHands_7 (fun H locs hzz hw hS => ?_)
  refine lv_iconst (v := nI 0) hx hb dX12_layHands_10 (by decide) ?_
  refine xistore_n hx hb dX12_layHands_11 hl (by decide) rfl (fun ls hl => ?_)
  have loop12 : ∀ (nf : Nat) (p1 : Nat) (A1 : Nat → Nat → Int32) (w1 : Wd) (H : Heap) (locs : List Loc) (ls : Array Slot), 5 - p1 < nf → (p1 ≤ 5) → (Ah A A1) → (MW G w1 M0 (vu (vu V 22 (.int (nI 0))) 23 (.int (nI 0))) A1) → (∀ j, j < p1 → A1 13 j = nI 0) → (Out w w1 M0 (M0 + 20)) → PW N0 G w1 H → va_S (fun q => N0 ≤ q) s.heap H locs → lh ls 5 [some (.ref M0), some (.int (nI i)), some (.int (nI t)), some (.int (nI p1)), none] → W p l e (rmD 4) s m ([.ref M0, .int (nI i), .int (nI t)] : List Value).toArray below meth c H locs 0 0 (MQ below (XQ N0 G vV (fun _ w1 => ∃ V1 A1, Vh V V1 ∧ Ah A A1 ∧ MW G w1 M0 V1 A1 ∧ Ty V1 A1 (sn S) (hndT S i t) ∧ Out w w1 M0 (M0 + 20))) ([.ref M0, .int (nI i), .int (nI t)] : List Value).toArray s 0 0 (fun q => N0 ≤ q)) (F0 m 12 ls []) := by
    intro nf
    induction nf with
    | zero => intros; omega
    | succ nf ih12 =>
      intro p1 A1 w1 H locs ls hnf hp hA1 hM1 h13 hO1 hw hS hl
      obtain ⟨hm0z, ⟨hv3z, hv4z, hv5z, hv6z, hv8z, hv9z, hv11z, hv12z, hv15z, hv18z, hv19z, hv20z, hv24z, hv30z, hv31z, hv32z, hv33z, hv34z, hv35z⟩, ha1z, ha2z, ha3z, ha4z, ha5z, ha6z, ha7z, ha8z, ha9z, ha10z, ha11z, ha12z, ha13z, ha14z, ha15z, ha16z, ha17z, ha18z, ha19z⟩ := id hM1
      refine xiload_n hx hb dX12_layHands_12 hl rfl ?_
      refine lv_iconst (v := nI 5) hx hb dX12_layHands_13 (by decide) ?_
      first | refine xcmp_ge (tgt := 30) hx hb dX12_layHands_14 (by decide) (by omega) (by omega) (fun c14 => ?_) (fun c14 => ?_) | refine lv_icmp_ge (tgt := 30) hx hb dX12_layHands_14 (by decide) (fun c14 => ?_) (fun c14 => ?_)
      · skip
        refine lv_iconst (v := nI 0) hx hb dX12_layHands_30 (by decide) ?_
        refine xistore_n hx hb dX12_layHands_31 hl (by decide) rfl (fun ls hl => ?_)
        have loop32 : ∀ (nf : Nat) (c1 : Nat) (V2 : Nat → Value) (A2 : Nat → Nat → Int32) (w2 : Wd) (u : Option Value) (H : Heap) (locs : List Loc) (ls : Array Slot), 5 ^ t - c1 < nf → (c1 ≤ 5 ^ t) → (Vh V V2) → (Ah A A2) → (MW G w2 M0 V2 A2) → (Ty V2 A2 (sn S) (tsC (sP S) (sL S) (sh S) t (sp S i) c1)) → (Out w w2 M0 (M0 + 20)) → PW N0 G w2 H → va_S (fun q => N0 ≤ q) s.heap H locs → lh ls 5 [some (.ref M0), some (.int (nI i)), some (.int (nI t)), some (.int (nI c1)), u] → W p l e (rmD 4) s m ([.ref M0, .int (nI i), .int (nI t)] : List Value).toArray below meth c H locs 0 0 (MQ below (XQ N0 G vV (fun _ w1 => ∃ V1 A1, Vh V V1 ∧ Ah A A1 ∧ MW G w1 M0 V1 A1 ∧ Ty V1 A1 (sn S) (hndT S i t) ∧ Out w w1 M0 (M0 + 20))) ([.ref M0, .int (nI i), .int (nI t)] : List Value).toArray s 0 0 (fun q => N0 ≤ q)) (F0 m 32 ls []) := by
          intro nf
          induction nf with
          | zero => intros; omega
          | succ nf ih32 =>
            intro c1 V2 A2 w2 u H locs ls hnf hc1 hV2 hA2 hM2 hY2 hO2 hw hS hl
            have hR2 := rm_h hR hV2 hA2
            have hm2c := hM2.1
            refine xiload_n hx hb dX12_layHands_32 hl rfl ?_
            refine xiload_n hx hb dX12_layHands_33 hl rfl ?_
            refine xSi ⟨hx, hb, hml, hown, hts⟩ (kX12_codes l N0 G _ t ht4) (va_cwS 1 hts gX12_layHands_X12_codes rfl rfl rfl (by decide +kernel) ⟨Nat.le_of_ble_eq_true rfl, Nat.le_of_ble_eq_true rfl⟩) hG hN hw hS rfl hl.1 rfl (Nat.le_of_ble_eq_true rfl) dX12_layHands_34 ⟨Nat.le_of_ble_eq_true rfl, Nat.le_of_ble_eq_true rfl⟩ (fun r34 w34 H locs hp34 hw hS => ?_)
            obtain ⟨rfl, rfl⟩ := hp34
            first | refine xcmp_ge (tgt := 135) hx hb dX12_layHands_37 (by decide) (by omega) (by omega) (fun c37 => ?_) (fun c37 => ?_) | refine lv_icmp_ge (tgt := 135) hx hb dX12_layHands_37 (by decide) (fun c37 => ?_) (fun c37 => ?_)
            · skip
              exact xvret hx hb hr hlk hw hS dX12_layHands_135 ⟨V2, A2, hV2, hA2, hM2, by have e := tsC_end (lim := sL S) (hd := sh S) (h := sp S i) (t := t) (P := sP S) hn5; rw [show c1 = 5 ^ t by omega, e] at hY2; exact hY2, hO2⟩
            · skip
              refine xaload_n hx hb dX12_layHands_40 hl rfl ?_
              refine xiload_n hx hb dX12_layHands_41 hl rfl ?_
              refine xiload_n hx hb dX12_layHands_42 hl rfl ?_
              refine xiload_n hx hb dX12_layHands_43 hl rfl ?_
              refine xVi ⟨hx, hb, hml, hown, hts⟩ (kX12_lendBy l N0 G _ _ V2 A2 hM2 S hR2 hL i hi hall t c1 ht4 (by omega)) (cwV 3 hts gX12_layHands_X12_lendBy rfl rfl rfl (by decide +kernel) ⟨Nat.le_of_ble_eq_true rfl, Nat.le_of_ble_eq_true rfl⟩) hG hN hw hS (ci := 12) hM2.1 rfl rfl hl.1 rfl (Nat.le_of_ble_eq_true rfl) dX12_layHands_44 ⟨Nat.le_of_ble_eq_true rfl, Nat.le_of_ble_eq_true rfl⟩ (fun r44 w44 H locs hp44 hw hS => ?_)
              obtain ⟨rfl, V3, A3, f, hV3, hf3, hM3, hN3, hg3, hO3⟩ := hp44
              have hm3c := hM3.1
              first | refine xifb_eq (tgt := 129) hx hb dX12_layHands_47 (by decide) (fun c47 => ?_) (fun c47 => ?_) | refine xif_eq (tgt := 129) hx hb dX12_layHands_47 (by decide) (by omega) (fun c47 => ?_) (fun c47 => ?_) | refine lv_if_eq (tgt := 129) hx hb dX12_layHands_47 (by decide) (fun c47 => ?_) (fun c47 => ?_)
              · skip
                obtain ⟨V9, A9, w9, hw9, hV9, hA9, hM9, hY9, hO9⟩ : ∃ V9 A9 w9, PW N0 G w9 H ∧ Vh V V9 ∧ Ah A A9 ∧ MW G w9 M0 V9 A9 ∧ Ty V9 A9 (sn S) (tsC (sP S) (sL S) (sh S) t (sp S i) (c1 + 1)) ∧ Out w w9 M0 (M0 + 20) := by
                  rw [tsC_s]
                  first
                    | (rw [hge]; simp only []; unfold t1; rw [if_pos (show okH (sh S) (bnd (sP S) (sL S) g) = true from c59)]; exact ⟨V4, A4, w4, hw, hV4, hA4, hM4, ⟨by rw [hV4e]; exact vu_ne (by decide) (vu_eq _ _ _), by rw [hV4e]; exact vu_eq _ _ _, fun j hj => by rw [h13 j hj]; exact ty_end (by omega)⟩, hO4⟩)
                    | (rw [hge]; simp only []; unfold t1; rw [if_neg (fun z => absurd (z.symm.trans (show okH (sh S) (bnd (sP S) (sL S) g) = false from c59)) (by decide))]; exact ⟨V3, A3, _, hw, fun k a b c => (hV3 k a).trans (hV2 k a b c), hA2.trN hN3, hM3, ⟨h22, h23, fun j hj => by rw [hN3.1 13 (by omega) (by omega) (by omega)]; exact hY2.2.2 j hj⟩, hO2.tr hO3 (Nat.le_refl _) (Nat.le_refl _)⟩)
                    | (rw [show lby (sP S) t c1 (sp S i) = none from by cases hq : lby (sP S) t c1 (sp S i) with
                         | none => rfl
                         | some g => rw [hq] at c47; cases c47]; exact ⟨V3, A3, _, hw, fun k a b c => (hV3 k a).trans (hV2 k a b c), hA2.trN hN3, hM3, ⟨(hV3 22 (by decide)).trans hY2.1, (hV3 23 (by decide)).trans hY2.2.1, fun j hj => by rw [hN3.1 13 (by omega) (by omega) (by omega)]; exact hY2.2.2 j hj⟩, hO2.tr hO3 (Nat.le_refl _) (Nat.le_refl _)⟩)
                replace hw := hw9
                first | refine xiincN hx hb 1 dX12_layHands_129 hl rfl (by decide) (by decide) rfl (fun ls hl => ?_) | refine xiinc hx hb dX12_layHands_129 hl rfl rfl (by decide) rfl (fun ls hl => ?_)
                refine lv_goto (tgt := 32) hx hb dX12_layHands_132 (by decide) ?_
                exact ih32 (c1 + 1) V9 A9 w9 _ _ _ _ (by omega) (by omega) hV9 hA9 hM9 hY9 hO9 hw hS hl
              · skip
                obtain ⟨g, hge⟩ := Option.isSome_iff_exists.mp c47
                obtain ⟨hT3, hfe, hg1, hgall⟩ := hg3 g hge
                have hR3 := rm_vo (rm_nk hR2 hN3) hV3
                have hddl := dd_len (n := 5) (h := g) (fun x hx => Nat.lt_of_lt_of_le (hgall x hx) hn5)
                have hb32 : bth (sP S) (sL S) (dd g) < 32 := bnd32 (lim := sL S) hgall hn5
                have hg0 : g.getD 0 0 < sn S := getD_lt hgall (by omega)
                have h22 : V3 22 = .int (nI (tsC (sP S) (sL S) (sh S) t (sp S i) c1).1) := (hV3 22 (by decide)).trans hY2.1
                have h23 : V3 23 = .int (nI (tsC (sP S) (sL S) (sh S) t (sp S i) c1).2.1) := (hV3 23 (by decide)).trans hY2.2.1
                have h10 : A3 10 (5 * i) = nI (g.getD 0 0) := (hT3.2.2 0 (dd_pos (fun e => by rw [e] at hg1; exact absurd hg1 (by decide)))).trans (congrArg nI (dd_head g))
                obtain ⟨hm0x, ⟨hv3x, hv4x, hv5x, hv6x, hv8x, hv9x, hv11x, hv12x, hv15x, hv18x, hv19x, hv20x, hv24x, hv30x, hv31x, hv32x, hv33x, hv34x, hv35x⟩, ha1x, ha2x, ha3x, ha4x, ha5x, ha6x, ha7x, ha8x, ha9x, ha10x, ha11x, ha12x, ha13x, ha14x, ha15x, ha16x, ha17x, ha18x, ha19x⟩ := id hM3
                refine xaload_n hx hb dX12_layHands_50 hl rfl ?_
                refine xaload_n hx hb dX12_layHands_51 hl rfl ?_
                refine xiload_n hx hb dX12_layHands_52 hl rfl ?_
                refine xVi ⟨hx, hb, hml, hown, hts⟩ (kX12_boundThought l N0 G _ _ V3 A3 hM3 S hR3 hL i hi (dd g) _ hT3 (fun x hx => hgall x (dd_sub _ hx)) hddl) (cwV 1 hts gX12_layHands_X12_boundThought rfl rfl rfl (by decide +kernel) ⟨Nat.le_of_ble_eq_true rfl, Nat.le_of_ble_eq_true rfl⟩) hG hN hw hS (ci := 12) hM3.1 rfl rfl hl.1 rfl (Nat.le_of_ble_eq_true rfl) dX12_layHands_53 ⟨Nat.le_of_ble_eq_true rfl, Nat.le_of_ble_eq_true rfl⟩ (fun r53 w53 H locs hp53 hw hS => ?_)
                obtain ⟨rfl, rfl⟩ := hp53
                refine xVi ⟨hx, hb, hml, hown, hts⟩ (kX12_isHeard l N0 G _ _ V3 A3 hM3 S hR3 hL _ hb32 hhd) (cwV 1 hts gX12_layHands_X12_isHeard rfl rfl rfl (by decide +kernel) ⟨Nat.le_of_ble_eq_true rfl, Nat.le_of_ble_eq_true rfl⟩) hG hN hw hS (ci := 12) hM3.1 rfl rfl hl.1 rfl (Nat.le_of_ble_eq_true rfl) dX12_layHands_56 ⟨Nat.le_of_ble_eq_true rfl, Nat.le_of_ble_eq_true rfl⟩ (fun r56 w56 H locs hp56 hw hS => ?_)
                obtain ⟨rfl, rfl⟩ := hp56
                first | refine xifb_eq (tgt := 129) hx hb dX12_layHands_59 (by decide) (fun c59 => ?_) (fun c59 => ?_) | refine xif_eq (tgt := 129) hx hb dX12_layHands_59 (by decide) (by omega) (fun c59 => ?_) (fun c59 => ?_) | refine lv_if_eq (tgt := 129) hx hb dX12_layHands_59 (by decide) (fun c59 => ?_) (fun c59 => ?_)
                · skip
                  obtain ⟨V9, A9, w9, hw9, hV9, hA9, hM9, hY9, hO9⟩ : ∃ V9 A9 w9, PW N0 G w9 H ∧ Vh V V9 ∧ Ah A A9 ∧ MW G w9 M0 V9 A9 ∧ Ty V9 A9 (sn S) (tsC (sP S) (sL S) (sh S) t (sp S i) (c1 + 1)) ∧ Out w w9 M0 (M0 + 20) := by
                    rw [tsC_s]
                    first
                      | (rw [hge]; simp only []; unfold t1; rw [if_pos (show okH (sh S) (bnd (sP S) (sL S) g) = true from c59)]; exact ⟨V4, A4, w4, hw, hV4, hA4, hM4, ⟨by rw [hV4e]; exact vu_ne (by decide) (vu_eq _ _ _), by rw [hV4e]; exact vu_eq _ _ _, fun j hj => by rw [h13 j hj]; exact ty_end (by omega)⟩, hO4⟩)
                      | (rw [hge]; simp only []; unfold t1; rw [if_neg (fun z => absurd (z.symm.trans (show okH (sh S) (bnd (sP S) (sL S) g) = false from c59)) (by decide))]; exact ⟨V3, A3, _, hw, fun k a b c => (hV3 k a).trans (hV2 k a b c), hA2.trN hN3, hM3, ⟨h22, h23, fun j hj => by rw [hN3.1 13 (by omega) (by omega) (by omega)]; exact hY2.2.2 j hj⟩, hO2.tr hO3 (Nat.le_refl _) (Nat.le_refl _)⟩)
                      | (rw [show lby (sP S) t c1 (sp S i) = none from by cases hq : lby (sP S) t c1 (sp S i) with
                           | none => rfl
                           | some g => rw [hq] at c47; cases c47]; exact ⟨V3, A3, _, hw, fun k a b c => (hV3 k a).trans (hV2 k a b c), hA2.trN hN3, hM3, ⟨(hV3 22 (by decide)).trans hY2.1, (hV3 23 (by decide)).trans hY2.2.1, fun j hj => by rw [hN3.1 13 (by omega) (by omega) (by omega)]; exact hY2.2.2 j hj⟩, hO2.tr hO3 (Nat.le_refl _) (Nat.le_refl _)⟩)
                  replace hw := hw9
                  first | refine xiincN hx hb 1 dX12_layHands_129 hl rfl (by decide) (by decide) rfl (fun ls hl => ?_) | refine xiinc hx hb dX12_layHands_129 hl rfl rfl (by decide) rfl (fun ls hl => ?_)
                  refine lv_goto (tgt := 32) hx hb dX12_layHands_132 (by decide) ?_
                  exact ih32 (c1 + 1) V9 A9 w9 _ _ _ _ (by omega) (by omega) hV9 hA9 hM9 hY9 hO9 hw hS hl
                · skip
                  refine xaload_n hx hb dX12_layHands_62 hl rfl ?_
                  refine lv_dup hx hb dX12_layHands_63 rfl ?_
                  refine xgetM hx hb hts hiX12 hown hG hw (by repeat first | assumption | exact wu_eq _ _ _ | refine wu_ne (by omega) ?_) 22 (by decide) hlnk0 (by repeat first | assumption | exact vu_eq _ _ _ | refine vu_ne (by decide) ?_) dX12_layHands_64 ?_
                  refine lv_iconst (v := nI 1) hx hb dX12_layHands_67 (by decide) ?_
                  first | refine xadd hx hb dX12_layHands_68 ?_ | refine lv_iadd hx hb dX12_layHands_68 ?_
                  refine xputM (ty := .int) hx hb hts hiX12 hown hG hw hS (by repeat first | assumption | exact wu_eq _ _ _ | refine wu_ne (by omega) ?_) 22 (by decide) hlnk0 rfl (by decide +kernel) rfl rfl dX12_layHands_69 (fun H locs hzz hw hS => ?_)
                  refine xaload_n hx hb dX12_layHands_72 hl rfl ?_
                  refine lv_dup hx hb dX12_layHands_73 rfl ?_
                  refine xgetM hx hb hts hiX12 hown hG hw (by repeat first | assumption | exact wu_eq _ _ _ | refine wu_ne (by omega) ?_) 23 (by decide) hlnk1 (by repeat first | assumption | exact vu_eq _ _ _ | refine vu_ne (by decide) ?_) dX12_layHands_74 ?_
                  refine lv_iconst (v := nI 1) hx hb dX12_layHands_77 (by decide) ?_
                  refine xaload_n hx hb dX12_layHands_78 hl rfl ?_
                  refine xgetM hx hb hts hiX12 hown hG hw (by repeat first | assumption | exact wu_eq _ _ _ | refine wu_ne (by omega) ?_) 18 (by decide) hlnk2 (by repeat first | assumption | exact vu_eq _ _ _ | refine vu_ne (by decide) ?_) dX12_layHands_79 ?_
                  refine lv_iconst (v := nI 5) hx hb dX12_layHands_82 (by decide) ?_
                  refine xiload_n hx hb dX12_layHands_83 hl rfl ?_
                  first | refine xmul hx hb dX12_layHands_84 ?_ | refine lv_imul hx hb dX12_layHands_84 ?_
                  refine xiald hx hb hG hw (by repeat first | assumption | exact wu_eq _ _ _ | refine wu_ne (by omega) ?_) (by omega) (by omega) dX12_layHands_85 ?_
                  refine xtop h10 ?_
                  first | refine xshl hx hb dX12_layHands_86 (by omega) ?_ | refine lv_ishl hx hb dX12_layHands_86 ?_
                  first | refine xor_ hx hb dX12_layHands_87 ?_ | refine lv_ior hx hb dX12_layHands_87 ?_
                  refine xputM (ty := .int) hx hb hts hiX12 hown hG hw hS (by repeat first | assumption | exact wu_eq _ _ _ | refine wu_ne (by omega) ?_) 23 (by decide) hlnk1 rfl (by decide +kernel) rfl rfl dX12_layHands_88 (fun H locs hzz hw hS => ?_)
                  obtain ⟨V4, hV4e⟩ : ∃ V4, V4 = vu (vu V3 22 (.int (nI ((tsC (sP S) (sL S) (sh S) t (sp S i) c1).1 + 1)))) 23 (.int (nI ((tsC (sP S) (sL S) (sh S) t (sp S i) c1).2.1 ||| 2 ^ g.getD 0 0))) := ⟨_, rfl⟩
                  have hM3b := (hM3.put (k := 22) (.int (nI ((tsC (sP S) (sL S) (sh S) t (sp S i) c1).1 + 1))) (by decide)).put (k := 23) (.int (nI ((tsC (sP S) (sL S) (sh S) t (sp S i) c1).2.1 ||| 2 ^ g.getD 0 0))) (by decide)
                  rw [← hV4e] at hM3b hw
                  have hV4 : Vh V V4 := fun k a b c => by rw [hV4e]; exact vu_ne c (vu_ne b ((hV3 k a).trans (hV2 k a b c)))
                  refine lv_iconst (v := nI 0) hx hb dX12_layHands_91 (by decide) ?_
                  refine xistore hx hb dX12_layHands_92 hl (by decide) rfl (fun ls hl => ?_)
                  have loop94 : ∀ (nf : Nat) (p1 : Nat) (A4 : Nat → Nat → Int32) (w4 : Wd) (H : Heap) (locs : List Loc) (ls : Array Slot), sn S - p1 < nf → (p1 ≤ sn S) → (Ah A A4) → (∀ k, k ≠ 13 → A4 k = A3 k) → (MW G w4 M0 V4 A4) → (∀ j, j < sn S → A4 13 j = nI ((tsC (sP S) (sL S) (sh S) t (sp S i) c1).2.2 j + (if j < p1 ∧ (bnd (sP S) (sL S) g).testBit j = true then 1 else 0))) → (Out w w4 M0 (M0 + 20)) → PW N0 G w4 H → va_S (fun q => N0 ≤ q) s.heap H locs → lh ls 5 [some (.ref M0), some (.int (nI i)), some (.int (nI t)), some (.int (nI c1)), some (.int (nI p1))] → W p l e (rmD 4) s m ([.ref M0, .int (nI i), .int (nI t)] : List Value).toArray below meth c H locs 0 0 (MQ below (XQ N0 G vV (fun _ w1 => ∃ V1 A1, Vh V V1 ∧ Ah A A1 ∧ MW G w1 M0 V1 A1 ∧ Ty V1 A1 (sn S) (hndT S i t) ∧ Out w w1 M0 (M0 + 20))) ([.ref M0, .int (nI i), .int (nI t)] : List Value).toArray s 0 0 (fun q => N0 ≤ q)) (F0 m 94 ls []) := by
                    intro nf
                    induction nf with
                    | zero => intros; omega
                    | succ nf ih94 =>
                      intro p1 A4 w4 H locs ls hnf hp hA4 hN4 hM4 h13 hO4 hw hS hl
                      obtain ⟨hm0z, ⟨hv3z, hv4z, hv5z, hv6z, hv8z, hv9z, hv11z, hv12z, hv15z, hv18z, hv19z, hv20z, hv24z, hv30z, hv31z, hv32z, hv33z, hv34z, hv35z⟩, ha1z, ha2z, ha3z, ha4z, ha5z, ha6z, ha7z, ha8z, ha9z, ha10z, ha11z, ha12z, ha13z, ha14z, ha15z, ha16z, ha17z, ha18z, ha19z⟩ := id hM4
                      have hR4 := rm_h hR hV4 hA4
                      have hT4 : Tl A4 i (dd g) (nI (g.length - 1)) := hT3.eqA (hN4 10 (by omega)) (hN4 11 (by omega)) (hN4 12 (by omega))
                      have hpe := hR4.2.1
                      refine xiload hx hb dX12_layHands_94 hl rfl ?_
                      refine xaload_n hx hb dX12_layHands_96 hl rfl ?_
                      refine xgetM hx hb hts hiX12 hown hG hw (by repeat first | assumption | exact wu_eq _ _ _ | refine wu_ne (by omega) ?_) 1 (by decide) hlnk3 (by repeat first | assumption | exact vu_eq _ _ _ | refine vu_ne (by decide) ?_) dX12_layHands_97 ?_
                      first | refine xcmp_ge (tgt := 129) hx hb dX12_layHands_100 (by decide) (by omega) (by omega) (fun c100 => ?_) (fun c100 => ?_) | refine lv_icmp_ge (tgt := 129) hx hb dX12_layHands_100 (by decide) (fun c100 => ?_) (fun c100 => ?_)
                      · skip
                        obtain ⟨V9, A9, w9, hw9, hV9, hA9, hM9, hY9, hO9⟩ : ∃ V9 A9 w9, PW N0 G w9 H ∧ Vh V V9 ∧ Ah A A9 ∧ MW G w9 M0 V9 A9 ∧ Ty V9 A9 (sn S) (tsC (sP S) (sL S) (sh S) t (sp S i) (c1 + 1)) ∧ Out w w9 M0 (M0 + 20) := by
                          rw [tsC_s]
                          first
                            | (rw [hge]; simp only []; unfold t1; rw [if_pos (show okH (sh S) (bnd (sP S) (sL S) g) = true from c59)]; exact ⟨V4, A4, w4, hw, hV4, hA4, hM4, ⟨by rw [hV4e]; exact vu_ne (by decide) (vu_eq _ _ _), by rw [hV4e]; exact vu_eq _ _ _, fun j hj => by rw [h13 j hj]; exact ty_end (by omega)⟩, hO4⟩)
                            | (rw [hge]; simp only []; unfold t1; rw [if_neg (fun z => absurd (z.symm.trans (show okH (sh S) (bnd (sP S) (sL S) g) = false from c59)) (by decide))]; exact ⟨V3, A3, _, hw, fun k a b c => (hV3 k a).trans (hV2 k a b c), hA2.trN hN3, hM3, ⟨h22, h23, fun j hj => by rw [hN3.1 13 (by omega) (by omega) (by omega)]; exact hY2.2.2 j hj⟩, hO2.tr hO3 (Nat.le_refl _) (Nat.le_refl _)⟩)
                            | (rw [show lby (sP S) t c1 (sp S i) = none from by cases hq : lby (sP S) t c1 (sp S i) with
                                 | none => rfl
                                 | some g => rw [hq] at c47; cases c47]; exact ⟨V3, A3, _, hw, fun k a b c => (hV3 k a).trans (hV2 k a b c), hA2.trN hN3, hM3, ⟨(hV3 22 (by decide)).trans hY2.1, (hV3 23 (by decide)).trans hY2.2.1, fun j hj => by rw [hN3.1 13 (by omega) (by omega) (by omega)]; exact hY2.2.2 j hj⟩, hO2.tr hO3 (Nat.le_refl _) (Nat.le_refl _)⟩)
                        replace hw := hw9
                        first | refine xiincN hx hb 1 dX12_layHands_129 hl rfl (by decide) (by decide) rfl (fun ls hl => ?_) | refine xiinc hx hb dX12_layHands_129 hl rfl rfl (by decide) rfl (fun ls hl => ?_)
                        refine lv_goto (tgt := 32) hx hb dX12_layHands_132 (by decide) ?_
                        exact ih32 (c1 + 1) V9 A9 w9 _ _ _ _ (by omega) (by omega) hV9 hA9 hM9 hY9 hO9 hw hS hl
                      · skip
                        refine xaload_n hx hb dX12_layHands_103 hl rfl ?_
                        refine xgetM hx hb hts hiX12 hown hG hw (by repeat first | assumption | exact wu_eq _ _ _ | refine wu_ne (by omega) ?_) 24 (by decide) hlnk4 (by repeat first | assumption | exact vu_eq _ _ _ | refine vu_ne (by decide) ?_) dX12_layHands_104 ?_
                        refine xiload hx hb dX12_layHands_107 hl rfl ?_
                        first | refine lv_dup2_11 hx hb dX12_layHands_109 rfl rfl ?_ | refine lv_dup2_2 hx hb dX12_layHands_109 rfl ?_
                        refine xiald hx hb hG hw (by repeat first | assumption | exact wu_eq _ _ _ | refine wu_ne (by omega) ?_) (by omega) (by omega) dX12_layHands_110 ?_
                        refine xtop (h13 p1 (by omega)) ?_
                        refine xaload_n hx hb dX12_layHands_111 hl rfl ?_
                        refine xiload_n hx hb dX12_layHands_112 hl rfl ?_
                        refine xVi ⟨hx, hb, hml, hown, hts⟩ (kX12_boundThought l N0 G _ _ V4 A4 hM4 S hR4 hL i hi (dd g) _ hT4 (fun x hx => hgall x (dd_sub _ hx)) hddl) (cwV 1 hts gX12_layHands_X12_boundThought rfl rfl rfl (by decide +kernel) ⟨Nat.le_of_ble_eq_true rfl, Nat.le_of_ble_eq_true rfl⟩) hG hN hw hS (ci := 12) hM4.1 rfl rfl hl.1 rfl (Nat.le_of_ble_eq_true rfl) dX12_layHands_113 ⟨Nat.le_of_ble_eq_true rfl, Nat.le_of_ble_eq_true rfl⟩ (fun r113 w113 H locs hp113 hw hS => ?_)
                        obtain ⟨rfl, rfl⟩ := hp113
                        refine xiload hx hb dX12_layHands_116 hl rfl ?_
                        first | refine xshr hx hb dX12_layHands_118 (by omega) (by omega) ?_ | refine lv_ishr hx hb dX12_layHands_118 ?_
                        refine lv_iconst (v := nI 1) hx hb dX12_layHands_119 (by decide) ?_
                        refine xand1 hx hb dX12_layHands_120 ?_
                        first | refine xadd hx hb dX12_layHands_121 ?_ | refine lv_iadd hx hb dX12_layHands_121 ?_
                        refine xiast hx hb hG hw hS (by repeat first | assumption | exact wu_eq _ _ _ | refine wu_ne (by omega) ?_) (by omega) (by omega) dX12_layHands_122 (fun H locs hzz hw hS => ?_)
                        first | refine xiincN hx hb 1 dX12_layHands_123 hl rfl (by decide) (by decide) rfl (fun ls hl => ?_) | refine xiinc hx hb dX12_layHands_123 hl rfl rfl (by decide) rfl (fun ls hl => ?_)
                        refine lv_goto (tgt := 94) hx hb dX12_layHands_126 (by decide) ?_
                        exact ih94 (p1 + 1) _ _ _ _ _ (by omega) (by omega) hA4.s13 (fun k hk => by rw [vup_ne _ _ hk]; exact hN4 k hk) (hM4.a13 _) (fun j hj => by
                          rw [vup_eq]
                          by_cases q : j = p1
                          · rw [q, upd_at]; exact ty_bit _ _ _
                          · rw [upd_no q, h13 j hj]
                            by_cases z : j < p1 ∧ (bnd (sP S) (sL S) g).testBit j = true
                            · rw [if_pos z, if_pos ⟨by omega, z.2⟩]
                            · rw [if_neg z, if_neg (fun w => z ⟨by omega, w.2⟩)]) (hO4.wu (by omega) (by omega)) hw hS hl
                  exact loop94 (sn S + 1) 0 A3 _ _ _ _ (by omega) (by omega) (hA2.trN hN3) (fun _ _ => rfl) hM3b (fun j hj => by rw [if_neg (by omega), hN3.1 13 (by omega) (by omega) (by omega)]; exact hY2.2.2 j hj) (((hO2.tr hO3 (Nat.le_refl _) (Nat.le_refl _)).wu (by omega) (by omega)).wu (by omega) (by omega)) hw hS hl
        exact loop32 (5 ^ t + 1) 0 _ A1 _ none _ _ _ (by omega) (by omega) (fun k a b c => vu_ne c (vu_ne b rfl)) hA1 hM1 ⟨vu_ne (by decide) (vu_eq _ _ _), vu_eq _ _ _, fun j hj => h13 j (by omega)⟩ hO1 hw hS hl
      · skip
        refine xaload_n hx hb dX12_layHands_17 hl rfl ?_
        refine xgetM hx hb hts hiX12 hown hG hw (by repeat first | assumption | exact wu_eq _ _ _ | refine wu_ne (by omega) ?_) 24 (by decide) hlnk4 (by repeat first | assumption | exact vu_eq _ _ _ | refine vu_ne (by decide) ?_) dX12_layHands_18 ?_
        refine xiload_n hx hb dX12_layHands_21 hl rfl ?_
        refine lv_iconst (v := nI 0) hx hb dX12_layHands_22 (by decide) ?_
        refine xiast hx hb hG hw hS (by repeat first | assumption | exact wu_eq _ _ _ | refine wu_ne (by omega) ?_) (by omega) (by omega) dX12_layHands_23 (fun H locs hzz hw hS => ?_)
        first | refine xiincN hx hb 1 dX12_layHands_24 hl rfl (by decide) (by decide) rfl (fun ls hl => ?_) | refine xiinc hx hb dX12_layHands_24 hl rfl rfl (by decide) rfl (fun ls hl => ?_)
        refine lv_goto (tgt := 12) hx hb dX12_layHands_27 (by decide) ?_
        exact ih12 (p1 + 1) _ _ _ _ _ (by omega) (by omega) hA1.s13 (hM1.a13 _) (fun j hj => by
          rw [vup_eq]
          by_cases q : j = p1
          · rw [q, upd_at]
          · rw [upd_no q]; exact h13 j (by omega)) (hO1.wu (by omega) (by omega)) hw hS hl
  have hMa := (hM.put (k := 22) (.int (nI 0)) (by decide)).put (k := 23) (.int (nI 0)) (by decide)
  exact loop12 6 0 A _ _ _ _ (by omega) (by omega) (fun _ _ _ _ _ => rfl) hMa (fun j hj => absurd hj (Nat.not_lt_zero j)) ((Out.rf.wu (by omega) (by omega)).wu (by omega) (by omega)) hw hS hl
