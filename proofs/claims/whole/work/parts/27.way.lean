/-- all but what lendBy remembers -/
def Vo (V V1 : Nat → Value) : Prop := ∀ k, k ≠ 21 → V1 k = V k
theorem Vo.rf {V : Nat → Value} : Vo V V := fun _ _ => rfl
theorem Vo.put {V V1 : Nat → Value} {v : Value} (h : Vo V V1) : Vo V (vu V1 21 v) := fun k hk => vu_ne hk (h k hk)
theorem Vo.tr {V V1 V2 : Nat → Value} (h : Vo V V1) (h2 : Vo V1 V2) : Vo V V2 := fun k hk => (h2 k hk).trans (h k hk)
theorem rm_vo {S : QS} {V V1 : Nat → Value} {A : Nat → Nat → Int32} (hR : RM S V A) (h : Vo V V1) : RM S V1 A := by
  obtain ⟨ht, hn, hlm, hdn, hhn, has, hpl, hkw, hRB, hpg, b, kt, h26, h27, hkt, hk1, hk2⟩ := hR
  refine ⟨(h 0 (by omega)).trans ht, (h 1 (by omega)).trans hn, (h 2 (by omega)).trans hlm, (h 7 (by omega)).trans hdn, (h 10 (by omega)).trans hhn, (h 13 (by omega)).trans has, (h 14 (by omega)).trans hpl, hkw, hRB, hpg, b, kt, (h 26 (by omega)).trans h26, (h 27 (by omega)).trans h27, hkt, hk1, fun B hB => ?_⟩
  obtain ⟨a, b, c, d, e⟩ := hk2 B hB
  exact ⟨a, b, (h 28 (by omega)).trans c, (h 29 (by omega)).trans d, e⟩
theorem p5 {t : Nat} (h : t ≤ 4) : 0 < 5 ^ t ∧ 5 ^ t ≤ 625 := by
  rcases (show t = 0 ∨ t = 1 ∨ t = 2 ∨ t = 3 ∨ t = 4 by omega) with rfl | rfl | rfl | rfl | rfl <;> decide
theorem inR_n {a n : Nat} (h : a < 2 ^ 31) : inR (nI a) n ↔ a < n := by
  unfold inR
  rw [nI_toInt h]
  omega
set_option maxHeartbeats 4000000 in
set_option maxRecDepth 100000 in
theorem kX12_codes (l : Launch) (N0 : Nat) (G : XG) (w : Wd) (t : Nat) (ht4 : t ≤ 4) : XM l yX12_codes wsX12_codes (rmD 1) N0 G [.int (nI t)] w vI (fun r w1 => nI (5 ^ t) = r ∧ w = w1) 0 0 := by
  refine XM.of (cc := cX12_codes) (maxL := 3) (ret := (some .int)) (by decide) rfl (Nat.le_of_ble_eq_true rfl) ?_
  intro p e s m below meth c hx hb hr hlk hin0 hml hown hts hN hw hG hS ls hl
  have hown : s.vm.findClass RX12 = some m.cls := hown
  have hl : lh ls 3 [some (.int (nI t)), none, none] := hl
  refine lv_iconst (v := nI 1) hx hb dX12_codes_0 (by decide) ?_
  refine xistore_n hx hb dX12_codes_1 hl (by decide) rfl (fun ls hl => ?_)
  refine lv_iconst (v := nI 0) hx hb dX12_codes_2 (by decide) ?_
  refine xistore_n hx hb dX12_codes_3 hl (by decide) rfl (fun ls hl => ?_)
  have loop4 : ∀ (nf : Nat) (k : Nat) (H : Heap) (locs : List Loc) (ls : Array Slot), t - k < nf → (k ≤ t) → PW N0 G w H → va_S (fun q => N0 ≤ q) s.heap H locs → lh ls 3 [some (.int (nI t)), some (.int (nI (5 ^ k))), some (.int (nI k))] → W p l e (rmD 1) s m ([.int (nI t)] : List Value).toArray below meth c H locs 0 0 (MQ below (XQ N0 G vI (fun r w1 => nI (5 ^ t) = r ∧ w = w1)) ([.int (nI t)] : List Value).toArray s 0 0 (fun q => N0 ≤ q)) (F0 m 4 ls []) := by
    intro nf
    induction nf with
    | zero => intros; omega
    | succ nf ih4 =>
      intro k H locs ls hnf hk hw hS hl
      refine xiload_n hx hb dX12_codes_4 hl rfl ?_
      refine xiload_n hx hb dX12_codes_5 hl rfl ?_
      first | refine xcmp_ge (tgt := 19) hx hb dX12_codes_6 (by decide) (by omega) (by omega) (fun c6 => ?_) (fun c6 => ?_) | refine lv_icmp_ge (tgt := 19) hx hb dX12_codes_6 (by decide) (fun c6 => ?_) (fun c6 => ?_)
      · skip
        obtain rfl : k = t := by omega
        refine xiload_n hx hb dX12_codes_19 hl rfl ?_
        exact xiret hx hb hr hlk hw hS dX12_codes_20 ⟨rfl, rfl⟩
      · skip
        refine xiload_n hx hb dX12_codes_9 hl rfl ?_
        refine lv_iconst (v := nI 5) hx hb dX12_codes_10 (by decide) ?_
        first | refine xmul hx hb dX12_codes_11 ?_ | refine lv_imul hx hb dX12_codes_11 ?_
        refine xtop (y := nI (5 ^ (k + 1))) (congrArg nI (Nat.pow_succ ..).symm) ?_
        refine xistore_n hx hb dX12_codes_12 hl (by decide) rfl (fun ls hl => ?_)
        first | refine xiincN hx hb 1 dX12_codes_13 hl rfl (by decide) (by decide) rfl (fun ls hl => ?_) | refine xiinc hx hb dX12_codes_13 hl rfl rfl (by decide) rfl (fun ls hl => ?_)
        refine lv_goto (tgt := 4) hx hb dX12_codes_16 (by decide) ?_
        exact ih4 (k + 1) _ _ _ (by omega) (by omega) hw hS hl
  exact loop4 (t + 1) 0 _ _ _ (by omega) (by omega) hw hS hl
set_option maxHeartbeats 4000000 in
set_option maxRecDepth 100000 in
theorem kX12_lendBy (l : Launch) (N0 : Nat) (G : XG) (w : Wd) (M0 : Nat) (V : Nat → Value) (A : Nat → Nat → Int32) (hM : MW G w M0 V A) (S : QS) (hR : RM S V A) (hL : WB S) (i : Nat) (hi : i < sn S) (hall : ∀ x ∈ sp S i, x < sn S) (t c0 : Nat) (ht4 : t ≤ 4) (hc0 : c0 < 5 ^ t) : XM l yX12_lendBy wsX12_lendBy (rmD 3) N0 G [.ref M0, .int (nI i), .int (nI t), .int (nI c0)] w vI (fun r w1 => bI (lby (sP S) t c0 (sp S i)).isSome = r ∧ ∃ V1 A1 f, Vo V V1 ∧ V1 21 = .int f ∧ MW G w1 M0 V1 A1 ∧ Nk A A1 i ∧ (∀ g, lby (sP S) t c0 (sp S i) = some g → Tl A1 i (dd g) (nI (g.length - 1)) ∧ f = (if t = 0 then -1 else nI (c0 / 5 ^ (t - 1))) ∧ 1 ≤ g.length ∧ ∀ x ∈ g, x < sn S) ∧ Out w w1 M0 (M0 + 20)) 0 0 := by
  refine XM.of (cc := cX12_lendBy) (maxL := 8) (ret := (some .boolean)) (by decide) rfl (Nat.le_of_ble_eq_true rfl) ?_
  intro p e s m below meth c hx hb hr hlk hin0 hml hown hts hN hw hG hS ls hl
  have hown : s.vm.findClass RX12 = some m.cls := hown
  have hiX12 : ∀ x ∈ u_ws RX12 TX12 37, x ∈ wsX12_lendBy := by decide +kernel
  have hlnk0 := hts (.fieldLink RX12 161 "LentQuillModel" "firstLent" "I") (by decide +kernel)
  have hl : lh ls 8 [some (.ref M0), some (.int (nI i)), some (.int (nI t)), some (.int (nI c0)), none, none, none, none] := hl
  obtain ⟨hm0, ⟨hv3, hv4, hv5, hv6, hv8, hv9, hv11, hv12, hv15, hv18, hv19, hv20, hv24, hv30, hv31, hv32, hv33, hv34, hv35⟩, ha1, ha2, ha3, ha4, ha5, ha6, ha7, ha8, ha9, ha10, ha11, ha12, ha13, ha14, ha15, ha16, ha17, ha18, ha19⟩ := id hM
  obtain ⟨ht, hn, hlm, hdn, hhn, has, hpl, hkw, hRB, hpg, hkp⟩ := id hR
  obtain ⟨hn5, hl5, hkd, hsp, hd6, hdw, hh6, hg18, hgr, hIm⟩ := id hL
  obtain ⟨hs1, hs41⟩ := hsp i hi
  have hq625 := p5 ht4
  refine xaload_n hx hb dX12_lendBy_0 hl rfl ?_
  refine xiload_n hx hb dX12_lendBy_1 hl rfl ?_
  refine xVv ⟨hx, hb, hml, hown, hts⟩ (kX12_think l N0 G _ _ V A hM S hR hL i hi hall) (cwV 1 hts gX12_lendBy_X12_think rfl rfl rfl (by decide +kernel) ⟨Nat.le_of_ble_eq_true rfl, Nat.le_of_ble_eq_true rfl⟩) hG hN hw hS (ci := 12) (by repeat first | assumption | exact wu_eq _ _ _ | refine wu_ne (by omega) ?_) rfl rfl hl.1 rfl (Nat.le_of_ble_eq_true rfl) dX12_lendBy_2 ⟨Nat.le_of_ble_eq_true rfl, Nat.le_of_ble_eq_true rfl⟩ (fun r2 w2 H locs hp2 hw hS => ?_)
  obtain ⟨A0, hM0, hN0, hT0, hO0⟩ := hp2
  obtain ⟨hm0y, ⟨hv3y, hv4y, hv5y, hv6y, hv8y, hv9y, hv11y, hv12y, hv15y, hv18y, hv19y, hv20y, hv24y, hv30y, hv31y, hv32y, hv33y, hv34y, hv35y⟩, ha1y, ha2y, ha3y, ha4y, ha5y, ha6y, ha7y, ha8y, ha9y, ha10y, ha11y, ha12y, ha13y, ha14y, ha15y, ha16y, ha17y, ha18y, ha19y⟩ := id hM0
  refine xiload_n hx hb dX12_lendBy_5 hl rfl ?_
  refine xistore hx hb dX12_lendBy_6 hl (by decide) rfl (fun ls hl => ?_)
  refine lv_iconst (v := nI 1) hx hb dX12_lendBy_8 (by decide) ?_
  refine xistore hx hb dX12_lendBy_9 hl (by decide) rfl (fun ls hl => ?_)
  refine lv_iconst (v := nI 0) hx hb dX12_lendBy_11 (by decide) ?_
  refine xistore hx hb dX12_lendBy_12 hl (by decide) rfl (fun ls hl => ?_)
  have loop14 : ∀ (nf : Nat) (q : Nat) (H : Heap) (locs : List Loc) (ls : Array Slot), t - q < nf → (q ≤ t) → PW N0 G w2 H → va_S (fun q => N0 ≤ q) s.heap H locs → lh ls 8 [some (.ref M0), some (.int (nI i)), some (.int (nI t)), some (.int (nI c0)), some (.int (nI c0)), some (.int (nI (5 ^ q))), some (.int (nI q)), none] → W p l e (rmD 3) s m ([.ref M0, .int (nI i), .int (nI t), .int (nI c0)] : List Value).toArray below meth c H locs 0 0 (MQ below (XQ N0 G vI (fun r w1 => bI (lby (sP S) t c0 (sp S i)).isSome = r ∧ ∃ V1 A1 f, Vo V V1 ∧ V1 21 = .int f ∧ MW G w1 M0 V1 A1 ∧ Nk A A1 i ∧ (∀ g, lby (sP S) t c0 (sp S i) = some g → Tl A1 i (dd g) (nI (g.length - 1)) ∧ f = (if t = 0 then -1 else nI (c0 / 5 ^ (t - 1))) ∧ 1 ≤ g.length ∧ ∀ x ∈ g, x < sn S) ∧ Out w w1 M0 (M0 + 20))) ([.ref M0, .int (nI i), .int (nI t), .int (nI c0)] : List Value).toArray s 0 0 (fun q => N0 ≤ q)) (F0 m 14 ls []) := by
    intro nf
    induction nf with
    | zero => intros; omega
    | succ nf ih14 =>
      intro q H locs ls hnf hq hw hS hl
      refine xiload hx hb dX12_lendBy_14 hl rfl ?_
      refine xiload_n hx hb dX12_lendBy_16 hl rfl ?_
      first | refine xcmp_ge (tgt := 32) hx hb dX12_lendBy_17 (by decide) (by omega) (by omega) (fun c17 => ?_) (fun c17 => ?_) | refine lv_icmp_ge (tgt := 32) hx hb dX12_lendBy_17 (by decide) (fun c17 => ?_) (fun c17 => ?_)
      · skip
        obtain rfl : t = q := by omega
        refine xaload_n hx hb dX12_lendBy_32 hl rfl ?_
        refine lv_iconst (v := -1) hx hb dX12_lendBy_33 (by decide) ?_
        refine xputM (ty := .int) hx hb hts hiX12 hown hG hw hS (by repeat first | assumption | exact wu_eq _ _ _ | refine wu_ne (by omega) ?_) 21 (by decide) hlnk0 rfl (by decide +kernel) rfl rfl dX12_lendBy_34 (fun H locs hzz hw hS => ?_)
        refine lv_iconst (v := nI 0) hx hb dX12_lendBy_37 (by decide) ?_
        refine xistore hx hb dX12_lendBy_38 hl (by decide) rfl (fun ls hl => ?_)
        have loop40 : ∀ (nf : Nat) (k : Nat) (g : List Nat) (c1 : Nat) (f : Int32) (V1 : Nat → Value) (A1 : Nat → Nat → Int32) (w1 : Wd) (u : Option Value) (H : Heap) (locs : List Loc) (ls : Array Slot), t - k < nf → (k ≤ t) → (c1 < 5 ^ (t - k)) → (lby (sP S) t c0 (sp S i) = lby (sP S) (t - k) c1 g) → ((k = 0 → f = -1 ∧ c1 = c0) ∧ (0 < k → f = nI (c0 / 5 ^ (t - 1)))) → ((1 ≤ g.length ∧ g.length ≤ 41) ∧ ∀ x ∈ g, x < sn S) → (Vo V V1) → (V1 21 = .int f) → (MW G w1 M0 V1 A1) → (Nk A A1 i) → (Tl A1 i (dd g) (nI (g.length - 1))) → (Out w w1 M0 (M0 + 20)) → PW N0 G w1 H → va_S (fun q => N0 ≤ q) s.heap H locs → lh ls 8 [some (.ref M0), some (.int (nI i)), some (.int (nI t)), some (.int (nI c0)), some (.int (nI c1)), some (.int (nI (5 ^ (t - k)))), some (.int (nI k)), u] → W p l e (rmD 3) s m ([.ref M0, .int (nI i), .int (nI t), .int (nI c0)] : List Value).toArray below meth c H locs 0 0 (MQ below (XQ N0 G vI (fun r w1 => bI (lby (sP S) t c0 (sp S i)).isSome = r ∧ ∃ V1 A1 f, Vo V V1 ∧ V1 21 = .int f ∧ MW G w1 M0 V1 A1 ∧ Nk A A1 i ∧ (∀ g, lby (sP S) t c0 (sp S i) = some g → Tl A1 i (dd g) (nI (g.length - 1)) ∧ f = (if t = 0 then -1 else nI (c0 / 5 ^ (t - 1))) ∧ 1 ≤ g.length ∧ ∀ x ∈ g, x < sn S) ∧ Out w w1 M0 (M0 + 20))) ([.ref M0, .int (nI i), .int (nI t), .int (nI c0)] : List Value).toArray s 0 0 (fun q => N0 ≤ q)) (F0 m 40 ls []) := by
          intro nf
          induction nf with
          | zero => intros; omega
          | succ nf ih40 =>
            intro k g c1 f V1 A1 w1 u H locs ls hnf hk hc1 hby hf hg hV1 hf1 hM1 hN1 hT1 hO1 hw hS hl
            obtain ⟨hm0z, ⟨hv3z, hv4z, hv5z, hv6z, hv8z, hv9z, hv11z, hv12z, hv15z, hv18z, hv19z, hv20z, hv24z, hv30z, hv31z, hv32z, hv33z, hv34z, hv35z⟩, ha1z, ha2z, ha3z, ha4z, ha5z, ha6z, ha7z, ha8z, ha9z, ha10z, ha11z, ha12z, ha13z, ha14z, ha15z, ha16z, ha17z, ha18z, ha19z⟩ := id hM1
            have hR1 := rm_vo (rm_nk hR hN1) hV1
            have hp0 := p5 (t := t - k) (by omega)
            refine xiload hx hb dX12_lendBy_40 hl rfl ?_
            refine xiload_n hx hb dX12_lendBy_42 hl rfl ?_
            first | refine xcmp_ge (tgt := 118) hx hb dX12_lendBy_43 (by decide) (by omega) (by omega) (fun c43 => ?_) (fun c43 => ?_) | refine lv_icmp_ge (tgt := 118) hx hb dX12_lendBy_43 (by decide) (fun c43 => ?_) (fun c43 => ?_)
            · skip
              obtain rfl : t = k := by omega
              rw [Nat.sub_self] at hby
              refine lv_iconst (v := nI 1) hx hb dX12_lendBy_118 (by decide) ?_
              first | exact xzret hx hb hr hlk hw hS dX12_lendBy_119 true rfl ⟨by rw [hby]; rfl, V1, A1, f, hV1, hf1, hM1, hN1, fun g2 h2 => by
                rw [hby] at h2
                obtain rfl : g = g2 := Option.some.inj h2
                refine ⟨hT1, ?_, hg.1.1, hg.2⟩
                by_cases q0 : t = 0
                · rw [if_pos q0]; exact (hf.1 q0).1
                · rw [if_neg q0]; exact hf.2 (by omega), hO1⟩ | exact xzret hx hb hr hlk hw hS dX12_lendBy_119 false rfl ⟨by rw [hby]; rfl, V1, A1, f, hV1, hf1, hM1, hN1, fun g2 h2 => by
                rw [hby] at h2
                obtain rfl : g = g2 := Option.some.inj h2
                refine ⟨hT1, ?_, hg.1.1, hg.2⟩
                by_cases q0 : t = 0
                · rw [if_pos q0]; exact (hf.1 q0).1
                · rw [if_neg q0]; exact hf.2 (by omega), hO1⟩
            · skip
              obtain ⟨n1, hn1⟩ : ∃ n1, t - k = n1 + 1 := ⟨t - k - 1, by omega⟩
              have hn4 : n1 ≤ 3 := by omega
              have hp1 := p5 (t := n1) (by omega)
              have hps : 5 ^ (t - k) = 5 ^ n1 * 5 := by rw [hn1, Nat.pow_succ]
              have hq0 : c1 / 5 ^ n1 < 5 := by rw [hps] at hc1; exact Nat.div_lt_of_lt_mul hc1
              have hm0r : c1 % 5 ^ n1 < 5 ^ n1 := Nat.mod_lt _ hp1.1
              refine xiload hx hb dX12_lendBy_46 hl rfl ?_
              refine lv_iconst (v := nI 5) hx hb dX12_lendBy_48 (by decide) ?_
              refine xdiv hx hb dX12_lendBy_49 (by omega) (by omega) (by omega) ?_
              refine xtop (y := nI (5 ^ n1)) (congrArg nI (by rw [hps]; exact Nat.mul_div_cancel _ (by omega))) ?_
              refine xistore hx hb dX12_lendBy_50 hl (by decide) rfl (fun ls hl => ?_)
              refine xiload hx hb dX12_lendBy_52 hl rfl ?_
              refine xiload hx hb dX12_lendBy_54 hl rfl ?_
              refine xdiv hx hb dX12_lendBy_56 (by omega) (by omega) (by omega) ?_
              refine xistore hx hb dX12_lendBy_57 hl (by decide) rfl (fun ls hl => ?_)
              refine xiload hx hb dX12_lendBy_59 hl rfl ?_
              refine xiload hx hb dX12_lendBy_61 hl rfl ?_
              refine xrem hx hb dX12_lendBy_63 (by omega) (by omega) (by omega) ?_
              refine xistore hx hb dX12_lendBy_64 hl (by decide) rfl (fun ls hl => ?_)
              refine xaload_n hx hb dX12_lendBy_66 hl rfl ?_
              refine xiload hx hb dX12_lendBy_67 hl rfl ?_
              refine xVi ⟨hx, hb, hml, hown, hts⟩ (kX12_isOne l N0 G _ _ V1 A1 hM1 S hR1 hL _) (cwV 1 hts gX12_lendBy_X12_isOne rfl rfl rfl (by decide +kernel) ⟨Nat.le_of_ble_eq_true rfl, Nat.le_of_ble_eq_true rfl⟩) hG hN hw hS (ci := 12) hM1.1 rfl rfl hl.1 rfl (Nat.le_of_ble_eq_true rfl) dX12_lendBy_69 ⟨Nat.le_of_ble_eq_true rfl, Nat.le_of_ble_eq_true rfl⟩ (fun r69 w69 H locs hp69 hw hS => ?_)
              obtain ⟨rfl, rfl⟩ := hp69
              first | refine xifb_eq (tgt := 85) hx hb dX12_lendBy_72 (by decide) (fun c72 => ?_) (fun c72 => ?_) | refine xif_eq (tgt := 85) hx hb dX12_lendBy_72 (by decide) (by omega) (fun c72 => ?_) (fun c72 => ?_) | refine lv_if_eq (tgt := 85) hx hb dX12_lendBy_72 (by decide) (fun c72 => ?_) (fun c72 => ?_)
              · skip
                have hnone : lby (sP S) t c0 (sp S i) = none := by
                  rw [hby, hn1, lby]
                  refine if_neg (fun z => ?_)
                  first | exact of_decide_eq_false c72 ((inR_n (by omega)).mpr z.1) | exact absurd (z.2.symm.trans c82) (by decide)
                refine lv_iconst (v := nI 0) hx hb dX12_lendBy_85 (by decide) ?_
                first | exact xzret hx hb hr hlk hw hS dX12_lendBy_86 true rfl ⟨by rw [hnone]; rfl, V1, A1, f, hV1, hf1, hM1, hN1, (fun g2 h2 => by rw [hnone] at h2; cases h2), hO1⟩ | exact xzret hx hb hr hlk hw hS dX12_lendBy_86 false rfl ⟨by rw [hnone]; rfl, V1, A1, f, hV1, hf1, hM1, hN1, (fun g2 h2 => by rw [hnone] at h2; cases h2), hO1⟩
              · skip
                refine xaload_n hx hb dX12_lendBy_75 hl rfl ?_
                refine xiload_n hx hb dX12_lendBy_76 hl rfl ?_
                refine xiload hx hb dX12_lendBy_77 hl rfl ?_
                refine xVi ⟨hx, hb, hml, hown, hts⟩ (kX12_mayThink l N0 G _ _ V1 A1 hM1 S hR1 hL i hi g hT1 hg.1.1 hg.1.2 hg.2 (c1 / 5 ^ n1) hq0) (cwV 2 hts gX12_lendBy_X12_mayThink rfl rfl rfl (by decide +kernel) ⟨Nat.le_of_ble_eq_true rfl, Nat.le_of_ble_eq_true rfl⟩) hG hN hw hS (ci := 12) hM1.1 rfl rfl hl.1 rfl (Nat.le_of_ble_eq_true rfl) dX12_lendBy_79 ⟨Nat.le_of_ble_eq_true rfl, Nat.le_of_ble_eq_true rfl⟩ (fun r79 w79 H locs hp79 hw hS => ?_)
                obtain ⟨rfl, rfl⟩ := hp79
                first | refine xifb_ne (tgt := 87) hx hb dX12_lendBy_82 (by decide) (fun c82 => ?_) (fun c82 => ?_) | refine xif_ne (tgt := 87) hx hb dX12_lendBy_82 (by decide) (by omega) (fun c82 => ?_) (fun c82 => ?_) | refine lv_if_ne (tgt := 87) hx hb dX12_lendBy_82 (by decide) (fun c82 => ?_) (fun c82 => ?_)
                · skip
                  have hto : c1 / 5 ^ n1 < sn S := (inR_n (by omega)).mp (of_decide_eq_true c72)
                  refine xaload_n hx hb dX12_lendBy_87 hl rfl ?_
                  refine xiload hx hb dX12_lendBy_88 hl rfl ?_
                  first | refine xifb_ne (tgt := 98) hx hb dX12_lendBy_90 (by decide) (fun c90 => ?_) (fun c90 => ?_) | refine xif_ne (tgt := 98) hx hb dX12_lendBy_90 (by decide) (by omega) (fun c90 => ?_) (fun c90 => ?_) | refine lv_if_ne (tgt := 98) hx hb dX12_lendBy_90 (by decide) (fun c90 => ?_) (fun c90 => ?_)
                  · skip
                    refine xaload_n hx hb dX12_lendBy_98 hl rfl ?_
                    refine xgetM hx hb hts hiX12 hown hG hw (by repeat first | assumption | exact wu_eq _ _ _ | refine wu_ne (by omega) ?_) 21 (by decide) hlnk0 (by repeat first | assumption | exact vu_eq _ _ _ | refine vu_ne (by decide) ?_) dX12_lendBy_99 ?_
                    refine xtop (y := nI (c0 / 5 ^ (t - 1))) (by first | (rw [(hf.1 c90).2, show t - 1 = n1 by omega]) | exact hf.2 (by omega)) ?_
                    refine xputM (ty := .int) hx hb hts hiX12 hown hG hw hS hM1.1 21 (by decide) hlnk0 rfl (by decide +kernel) rfl rfl dX12_lendBy_102 (fun H locs hzz hw hS => ?_)
                    have hM2 := hM1.put (k := 21) (.int (nI (c0 / 5 ^ (t - 1)))) (by decide)
                    have hR2 := rm_vo hR1 (Vo.rf.put (v := .int (nI (c0 / 5 ^ (t - 1)))))
                    refine xaload_n hx hb dX12_lendBy_105 hl rfl ?_
                    refine xiload_n hx hb dX12_lendBy_106 hl rfl ?_
                    refine xiload hx hb dX12_lendBy_107 hl rfl ?_
                    refine xVv ⟨hx, hb, hml, hown, hts⟩ (kX12_thinkLent l N0 G _ _ _ A1 hM2 S hR2 hL i hi (dd g) (g.length - 1) hT1 (dd_nodup g) (fun x hx => Nat.lt_of_lt_of_le (hg.2 x (dd_sub _ hx)) hn5) (c1 / 5 ^ n1) hq0) (cwV 2 hts gX12_lendBy_X12_thinkLent rfl rfl rfl (by decide +kernel) ⟨Nat.le_of_ble_eq_true rfl, Nat.le_of_ble_eq_true rfl⟩) hG hN hw hS (ci := 12) hM2.1 rfl rfl hl.1 rfl (Nat.le_of_ble_eq_true rfl) dX12_lendBy_109 ⟨Nat.le_of_ble_eq_true rfl, Nat.le_of_ble_eq_true rfl⟩ (fun r109 w109 H locs hp109 hw hS => ?_)
                    obtain ⟨A3, hM3, hN3, hT3, hO3⟩ := hp109
                    first | refine xiincN hx hb 1 dX12_lendBy_112 hl rfl (by decide) (by decide) rfl (fun ls hl => ?_) | refine xiinc hx hb dX12_lendBy_112 hl rfl rfl (by decide) rfl (fun ls hl => ?_)
                    refine lv_goto (tgt := 40) hx hb dX12_lendBy_115 (by decide) ?_
                    have hl : lh ls 8 [some (.ref M0), some (.int (nI i)), some (.int (nI t)), some (.int (nI c0)), some (.int (nI (c1 % 5 ^ n1))), some (.int (nI (5 ^ (t - (k + 1))))), some (.int (nI (k + 1))), some (.int (nI (c1 / 5 ^ n1)))] := by rw [show t - (k + 1) = n1 by omega]; exact hl
                    exact ih40 (k + 1) (c1 / 5 ^ n1 :: g) (c1 % 5 ^ n1) _ _ A3 _ _ _ _ _ (by omega) (by omega) (by rw [show t - (k + 1) = n1 by omega]; exact hm0r) (by rw [hby, hn1, lby, if_pos ⟨hto, c82⟩, show t - (k + 1) = n1 by omega]) ⟨fun z => absurd z (by omega), fun _ => rfl⟩ ⟨⟨by simp, by have := mayL_len c82; rw [List.length_cons]; omega⟩, fun x hx => by
                      rcases List.mem_cons.mp hx with z | z
                      · rw [z]; exact hto
                      · exact hg.2 x z⟩ hV1.put (vu_eq _ _ _) hM3 (hN1.tr hN3) (by rw [show (c1 / 5 ^ n1 :: g).length - 1 = g.length - 1 + 1 by rw [List.length_cons]; have := hg.1.1; omega]; exact hT3) ((hO1.wu (by omega) (by omega)).tr hO3 (Nat.le_refl _) (Nat.le_refl _)) hw hS hl
                  · skip
                    refine xiload hx hb dX12_lendBy_93 hl rfl ?_
                    refine lv_goto (tgt := 102) hx hb dX12_lendBy_95 (by decide) ?_
                    refine xtop (y := nI (c0 / 5 ^ (t - 1))) (by first | (rw [(hf.1 c90).2, show t - 1 = n1 by omega]) | exact hf.2 (by omega)) ?_
                    refine xputM (ty := .int) hx hb hts hiX12 hown hG hw hS hM1.1 21 (by decide) hlnk0 rfl (by decide +kernel) rfl rfl dX12_lendBy_102 (fun H locs hzz hw hS => ?_)
                    have hM2 := hM1.put (k := 21) (.int (nI (c0 / 5 ^ (t - 1)))) (by decide)
                    have hR2 := rm_vo hR1 (Vo.rf.put (v := .int (nI (c0 / 5 ^ (t - 1)))))
                    refine xaload_n hx hb dX12_lendBy_105 hl rfl ?_
                    refine xiload_n hx hb dX12_lendBy_106 hl rfl ?_
                    refine xiload hx hb dX12_lendBy_107 hl rfl ?_
                    refine xVv ⟨hx, hb, hml, hown, hts⟩ (kX12_thinkLent l N0 G _ _ _ A1 hM2 S hR2 hL i hi (dd g) (g.length - 1) hT1 (dd_nodup g) (fun x hx => Nat.lt_of_lt_of_le (hg.2 x (dd_sub _ hx)) hn5) (c1 / 5 ^ n1) hq0) (cwV 2 hts gX12_lendBy_X12_thinkLent rfl rfl rfl (by decide +kernel) ⟨Nat.le_of_ble_eq_true rfl, Nat.le_of_ble_eq_true rfl⟩) hG hN hw hS (ci := 12) hM2.1 rfl rfl hl.1 rfl (Nat.le_of_ble_eq_true rfl) dX12_lendBy_109 ⟨Nat.le_of_ble_eq_true rfl, Nat.le_of_ble_eq_true rfl⟩ (fun r109 w109 H locs hp109 hw hS => ?_)
                    obtain ⟨A3, hM3, hN3, hT3, hO3⟩ := hp109
                    first | refine xiincN hx hb 1 dX12_lendBy_112 hl rfl (by decide) (by decide) rfl (fun ls hl => ?_) | refine xiinc hx hb dX12_lendBy_112 hl rfl rfl (by decide) rfl (fun ls hl => ?_)
                    refine lv_goto (tgt := 40) hx hb dX12_lendBy_115 (by decide) ?_
                    have hl : lh ls 8 [some (.ref M0), some (.int (nI i)), some (.int (nI t)), some (.int (nI c0)), some (.int (nI (c1 % 5 ^ n1))), some (.int (nI (5 ^ (t - (k + 1))))), some (.int (nI (k + 1))), some (.int (nI (c1 / 5 ^ n1)))] := by rw [show t - (k + 1) = n1 by omega]; exact hl
                    exact ih40 (k + 1) (c1 / 5 ^ n1 :: g) (c1 % 5 ^ n1) _ _ A3 _ _ _ _ _ (by omega) (by omega) (by rw [show t - (k + 1) = n1 by omega]; exact hm0r) (by rw [hby, hn1, lby, if_pos ⟨hto, c82⟩, show t - (k + 1) = n1 by omega]) ⟨fun z => absurd z (by omega), fun _ => rfl⟩ ⟨⟨by simp, by have := mayL_len c82; rw [List.length_cons]; omega⟩, fun x hx => by
                      rcases List.mem_cons.mp hx with z | z
                      · rw [z]; exact hto
                      · exact hg.2 x z⟩ hV1.put (vu_eq _ _ _) hM3 (hN1.tr hN3) (by rw [show (c1 / 5 ^ n1 :: g).length - 1 = g.length - 1 + 1 by rw [List.length_cons]; have := hg.1.1; omega]; exact hT3) ((hO1.wu (by omega) (by omega)).tr hO3 (Nat.le_refl _) (Nat.le_refl _)) hw hS hl
                · skip
                  have hnone : lby (sP S) t c0 (sp S i) = none := by
                    rw [hby, hn1, lby]
                    refine if_neg (fun z => ?_)
                    first | exact of_decide_eq_false c72 ((inR_n (by omega)).mpr z.1) | exact absurd (z.2.symm.trans c82) (by decide)
                  refine lv_iconst (v := nI 0) hx hb dX12_lendBy_85 (by decide) ?_
                  first | exact xzret hx hb hr hlk hw hS dX12_lendBy_86 true rfl ⟨by rw [hnone]; rfl, V1, A1, f, hV1, hf1, hM1, hN1, (fun g2 h2 => by rw [hnone] at h2; cases h2), hO1⟩ | exact xzret hx hb hr hlk hw hS dX12_lendBy_86 false rfl ⟨by rw [hnone]; rfl, V1, A1, f, hV1, hf1, hM1, hN1, (fun g2 h2 => by rw [hnone] at h2; cases h2), hO1⟩
        have hM2 := hM0.put (k := 21) (.int (-1)) (by decide)
        exact loop40 (t + 1) 0 (sp S i) c0 (-1) _ A0 _ none _ _ _ (by omega) (by omega) (by rw [Nat.sub_zero]; exact hc0) (by rw [Nat.sub_zero]) ⟨fun _ => ⟨rfl, rfl⟩, fun z => absurd z (by omega)⟩ ⟨⟨hs1, hs41⟩, hall⟩ Vo.rf.put (vu_eq _ _ _) hM2 hN0 hT0 (hO0.wu (by omega) (by omega)) hw hS hl
      · skip
        refine xiload hx hb dX12_lendBy_20 hl rfl ?_
        refine lv_iconst (v := nI 5) hx hb dX12_lendBy_22 (by decide) ?_
        first | refine xmul hx hb dX12_lendBy_23 ?_ | refine lv_imul hx hb dX12_lendBy_23 ?_
        refine xtop (y := nI (5 ^ (q + 1))) (congrArg nI (Nat.pow_succ ..).symm) ?_
        refine xistore hx hb dX12_lendBy_24 hl (by decide) rfl (fun ls hl => ?_)
        first | refine xiincN hx hb 1 dX12_lendBy_26 hl rfl (by decide) (by decide) rfl (fun ls hl => ?_) | refine xiinc hx hb dX12_lendBy_26 hl rfl rfl (by decide) rfl (fun ls hl => ?_)
        refine lv_goto (tgt := 14) hx hb dX12_lendBy_29 (by decide) ?_
        exact ih14 (q + 1) _ _ _ (by omega) (by omega) hw hS hl
  exact loop14 (t + 1) 0 _ _ _ (by omega) (by omega) hw hS hl
