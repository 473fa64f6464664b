/-! ===== the law's loop and its start ===== -/
theorem s4 : ∀ n, n < 257 → (nI n - nI 4).toInt = (n : Int) - 4 := by decide +kernel
theorem lt4 {n k : Nat} (hn : n ≤ 256) (hk : 4 * k ≤ 256) : (nI n - nI 4 < nI (4 * k)) ↔ n < 4 * k + 4 := by
  rw [Int32.lt_iff_toInt_lt, s4 n (by omega), nI_toInt (by omega)]
  omega
theorem and31 (x : Int32) : ∃ t, t < 32 ∧ x &&& nI 31 = nI t := by
  refine ⟨(x.toBitVec &&& 31#32).toNat, ?_, ?_⟩
  · rw [BitVec.toNat_and]
    exact Nat.lt_of_le_of_lt Nat.and_le_right (by decide)
  · apply Int32.toBitVec_inj.mp
    rw [Int32.toBitVec_and]
    show x.toBitVec &&& 31#32 = BitVec.ofNat 32 (x.toBitVec &&& 31#32).toNat
    rw [BitVec.ofNat_toNat, BitVec.setWidth_eq]
set_option maxHeartbeats 4000000 in
set_option maxRecDepth 100000 in
theorem law_loop {p : Program} {l : Launch} {e : Env} {s : State} {m : MethodId} {below : List Frame} {meth : Method} {c : Code} {G : XG} {b L : Nat} {xs : Nat → Int32} (hL : L ≤ 256) (C0 : lw_At p s m meth c b L xs) (hG : GK G s) (hK : SK s.heap.size G s s.heap) : ∀ (n k : Nat) (S : QS) (V : Nat → Value) (A : Nat → Nat → Int32) (w : Wd) (H : Heap) (locs : List Loc) (ls : Array Slot), 64 - k < n → 4 * k ≤ L + 3 → k ≤ 64 → LI G w s.heap.size S V A → sT S ≤ k → PW s.heap.size G w H → va_S (fun q => s.heap.size ≤ q) s.heap H locs → lh ls 4 [some (.ref b), some (.ref s.heap.size), some (.ref (s.heap.size + 52)), some (.int (nI (4 * k)))] → W p l e room_1 s m #[Value.ref b] below meth c H locs (72 + 5 * k) (1385 + 5 * k) (lw_Z below #[Value.ref b] s) (F0 m 18 ls []) := by
  obtain ⟨hx, hb, hr, hml, hown, hts0, hX, hbl, hlocks, hgv⟩ := id C0
  have hb : c.code = cL_law := hb
  have hown : s.vm.findClass RL = some m.cls := hown
  have hts : ∀ x ∈ wsL_law, x.before #[Value.ref b] s = true := fun x h => hts0 x (wsL_law_in x h)
  have hbA : ¬ (fun q : Nat => s.heap.size ≤ q) b := Nat.not_le.mpr hbl
  have hN : s.heap.size ≤ s.heap.size ∧ SK s.heap.size G s s.heap := ⟨Nat.le_refl _, hK⟩
  intro n
  induction n with
  | zero => intro k S V A w H locs ls h1; omega
  | succ n ih =>
    intro k S V A w H locs ls hnf hkL hk64 hI hT hw hS hl
    refine xiload_n hx hb dL_law_18 hl rfl ?_
    refine xaload_n hx hb dL_law_19 hl rfl ?_
    refine va_slen hx hb hX hbl hbA hS dL_law_20 ?_
    refine lv_iconst (v := nI 4) hx hb dL_law_21 (by decide) ?_
    refine lv_isub hx hb dL_law_22 ?_
    refine lv_icmp_gt (tgt := 782) hx hb dL_law_23 (by decide) (fun c23 => ?_) (fun c23 => ?_)
    · refine lv_iconst (v := 1) hx hb dL_law_782 (by decide) ?_
      refine va_forget (fun q hq => hS.2.2 q hq) ?_
      refine W.widen (k := 600000) (n := 7302250) (by omega) (by omega) ?_
      exact lw_ret hx hb hr hlocks dL_law_783
    · have hi : 4 * k + 4 ≤ L := Nat.not_lt.mp (fun q => c23 ((lt4 hL (by omega)).mpr q))
      have fin : ∀ (S1 : QS) (V1 : Nat → Value) (A1 : Nat → Nat → Int32) (w1 : Wd) (H1 : Heap) (locs1 : List Loc), LI G w1 s.heap.size S1 V1 A1 → sT S1 ≤ k + 1 → PW s.heap.size G w1 H1 → va_S (fun q => s.heap.size ≤ q) s.heap H1 locs1 → W p l e room_1 s m #[Value.ref b] below meth c H1 locs1 (72 + 5 * k + 5) (1385 + 5 * k + 5) (lw_Z below #[Value.ref b] s) (F0 m 776 ls []) := by
        intro S1 V1 A1 w1 H1 locs1 hI1 hT1 hw1 hS1
        refine xiincN hx hb 4 dL_law_776 hl rfl (by decide) (by decide) rfl (fun ls hl => ?_)
        refine lv_goto (tgt := 18) hx hb dL_law_779 (by decide) ?_
        refine W.widen (k := 72 + 5 * (k + 1)) (n := 1385 + 5 * (k + 1)) (by omega) (by omega) ?_
        exact ih (k + 1) S1 V1 A1 w1 H1 locs1 ls (by omega) (by omega) (by omega) hI1 hT1 hw1 hS1 (by rw [show 4 * (k + 1) = 4 * k + 4 by omega]; exact hl)
      have hc : 72 + 5 * k + 5 ≤ 600000 ∧ 1385 + 5 * k + 5 ≤ 7302250 := ⟨by omega, by omega⟩
      refine xaload_n hx hb dL_law_26 hl rfl ?_
      refine xiload_n hx hb dL_law_27 hl rfl ?_
      refine xsld hx hb hX hbl hbA hS (by omega) hL dL_law_28 ?_
      refine lv_bipush (v := nI 31) hx hb dL_law_29 (by decide) ?_
      refine lv_iand hx hb dL_law_31 ?_
      obtain ⟨t, ht, hte⟩ := and31 (xs (4 * k))
      refine xtop hte ?_
      rcases (show t = 0 ∨ t = 1 ∨ t = 2 ∨ t = 3 ∨ t = 4 ∨ t = 5 ∨ t = 6 ∨ t = 7 ∨ t = 8 ∨ t = 9 ∨ t = 10 ∨ t = 11 ∨ t = 12 ∨ t = 13 ∨ t = 14 ∨ t = 15 ∨ t = 16 ∨ t = 17 ∨ t = 18 ∨ t = 19 ∨ t = 20 ∨ t = 21 ∨ t = 22 ∨ 23 ≤ t by omega) with rfl | rfl | rfl | rfl | rfl | rfl | rfl | rfl | rfl | rfl | rfl | rfl | rfl | rfl | rfl | rfl | rfl | rfl | rfl | rfl | rfl | rfl | rfl | hge
      · refine lv_tableIn (off := 108) (tgt := 140) hx hb dL_law_32 (by decide) (by decide) (by decide) (by decide) ?_
        exact lc_letter C0 hG hK hi hL hc hI hT hw hS hl fin
      · refine lv_tableIn (off := 131) (tgt := 163) hx hb dL_law_32 (by decide) (by decide) (by decide) (by decide) ?_
        exact lc_blank C0 hG hK hi hL hc hI hT hw hS hl fin
      · refine lv_tableIn (off := 144) (tgt := 176) hx hb dL_law_32 (by decide) (by decide) (by decide) (by decide) ?_
        exact lc_fault C0 hG hK hi hL hc hI hT hw hS hl fin
      · refine lv_tableIn (off := 157) (tgt := 189) hx hb dL_law_32 (by decide) (by decide) (by decide) (by decide) ?_
        exact lc_town C0 hG hK hi hL hc hI hT hw hS hl fin
      · refine lv_tableIn (off := 170) (tgt := 202) hx hb dL_law_32 (by decide) (by decide) (by decide) (by decide) ?_
        exact lc_about C0 hG hK hi hL hc hI hT hw hS hl fin
      · refine lv_tableIn (off := 203) (tgt := 235) hx hb dL_law_32 (by decide) (by decide) (by decide) (by decide) ?_
        exact lc_as C0 hG hK hi hL hc hI hT hw hS hl fin
      · refine lv_tableIn (off := 236) (tgt := 268) hx hb dL_law_32 (by decide) (by decide) (by decide) (by decide) ?_
        exact lc_lend C0 hG hK hi hL hc hI hT hw hS hl fin
      · refine lv_tableIn (off := 269) (tgt := 301) hx hb dL_law_32 (by decide) (by decide) (by decide) (by decide) ?_
        exact lc_had C0 hG hK hi hL hc hI hT hw hS hl fin
      · refine lv_tableIn (off := 302) (tgt := 334) hx hb dL_law_32 (by decide) (by decide) (by decide) (by decide) ?_
        exact lc_sign C0 hG hK hi hL hc hI hT hw hS hl fin
      · refine lv_tableIn (off := 335) (tgt := 367) hx hb dL_law_32 (by decide) (by decide) (by decide) (by decide) ?_
        exact lc_deed C0 hG hK hi hL hc hI hT hw hS hl fin
      · refine lv_tableIn (off := 368) (tgt := 400) hx hb dL_law_32 (by decide) (by decide) (by decide) (by decide) ?_
        exact lc_free C0 hG hK hi hL hc hI hT hw hS hl fin
      · refine lv_tableIn (off := 401) (tgt := 433) hx hb dL_law_32 (by decide) (by decide) (by decide) (by decide) ?_
        exact lc_owes C0 hG hK hi hL hc hI hT hw hS hl fin
      · refine lv_tableIn (off := 434) (tgt := 466) hx hb dL_law_32 (by decide) (by decide) (by decide) (by decide) ?_
        exact lc_way C0 hG hK hi hL hc hI hT hw hS hl fin
      · refine lv_tableIn (off := 477) (tgt := 509) hx hb dL_law_32 (by decide) (by decide) (by decide) (by decide) ?_
        exact lc_find C0 hG hK hi hL hc hI hT hw hS hl fin
      · refine lv_tableIn (off := 500) (tgt := 532) hx hb dL_law_32 (by decide) (by decide) (by decide) (by decide) ?_
        exact lc_hear C0 hG hK hi hL hc hI hT hw hS hl fin
      · refine lv_tableIn (off := 549) (tgt := 581) hx hb dL_law_32 (by decide) (by decide) (by decide) (by decide) ?_
        exact lc_forget C0 hG hK hi hL hc hI hT hw hS hl fin
      · refine lv_tableIn (off := 562) (tgt := 594) hx hb dL_law_32 (by decide) (by decide) (by decide) (by decide) ?_
        exact lc_hands C0 hG hK hi hL hc hI hT hw hS hl fin
      · refine lv_tableIn (off := 605) (tgt := 637) hx hb dL_law_32 (by decide) (by decide) (by decide) (by decide) ?_
        exact lc_ask C0 hG hK hi hL hc hI hT hw hS hl fin
      · refine lv_tableIn (off := 638) (tgt := 670) hx hb dL_law_32 (by decide) (by decide) (by decide) (by decide) ?_
        exact lc_fairs C0 hG hK hi hL hc hI hT hw hS hl fin
      · refine lv_tableIn (off := 681) (tgt := 713) hx hb dL_law_32 (by decide) (by decide) (by decide) (by decide) ?_
        exact lc_image C0 hG hK hi hL hc hI hT hw hS hl fin
      · refine lv_tableIn (off := 694) (tgt := 726) hx hb dL_law_32 (by decide) (by decide) (by decide) (by decide) ?_
        exact lc_restore C0 hG hK hi hL hc hI hT hw hS hl fin
      · refine lv_tableIn (off := 707) (tgt := 739) hx hb dL_law_32 (by decide) (by decide) (by decide) (by decide) ?_
        exact lc_count C0 hG hK hi hL hc hI hT hw hS hl fin
      · refine lv_tableIn (off := 730) (tgt := 762) hx hb dL_law_32 (by decide) (by decide) (by decide) (by decide) ?_
        exact lc_digest C0 hG hK hi hL hc hI hT hw hS hl fin
      · refine lv_tableOut (tgt := 776) hx hb dL_law_32 (Or.inr (by rw [nI_toInt (by omega)]; omega)) (by decide) ?_
        refine W.widen (k := 72 + 5 * k + 5) (n := 1385 + 5 * k + 5) (by omega) (by omega) ?_
        exact fin S V A w H locs hI (Nat.le_succ_of_le hT) hw hS
set_option maxHeartbeats 4000000 in
set_option maxRecDepth 100000 in
/-- the law, from its entry -/
theorem whole_start {p : Program} {e : Env} {s : State} {m : MethodId} {below : List Frame} {meth : Method} {c : Code} (l : Launch) {b L : Nat} {xs : Nat → Int32} (hL : L ≤ 256) (C0 : lw_At p s m meth c b L xs) : W p l e room_1 s m #[Value.ref b] below meth c s.heap [] 0 0 (lw_Z below #[Value.ref b] s) (entryFrame m ([Value.ref b] : List Value).toArray 4) := by
  obtain ⟨G, hG, hK⟩ := env_all C0.2.2.2.2.2.1 C0.2.2.2.2.2.2.2.2.2
  obtain ⟨hx, hb, hr, hml, hown, hts0, hX, hbl, hlocks, hgv⟩ := id C0
  have hb : c.code = cL_law := hb
  have hown : s.vm.findClass RL = some m.cls := hown
  have hts : ∀ x ∈ wsL_law, x.before #[Value.ref b] s = true := fun x h => hts0 x (wsL_law_in x h)
  have hbA : ¬ (fun q : Nat => s.heap.size ≤ q) b := Nat.not_le.mpr hbl
  have hN : s.heap.size ≤ s.heap.size ∧ SK s.heap.size G s s.heap := ⟨Nat.le_refl _, hK⟩
  have hl := lv_entry ([.ref b]) (n := 4) (Nat.le_of_ble_eq_true rfl)
  rw [lg_entry_eq]
  generalize (lg_sl ([.ref b]) ++ List.replicate (4 - (lg_sl ([.ref b])).length) Slot.unset).toArray = ls at hl ⊢
  have hl : lh ls 4 [some (.ref b), none, none, none] := hl
  have hw : PW s.heap.size G (fun _ => none) s.heap := fun a e h => by cases h
  have hS : va_S (fun q => s.heap.size ≤ q) s.heap s.heap [] := va_S.rf
  refine xnew (C := RX11) (T := TX11) (N := 9) (fs := [.null, .null, .null, .null, .null, .null, .int 0, .int 0, .int 0]) hx hb (ci := 11) hts0 in_wsX110 tyX11 tyX11_ok hown (hts (.classLink RL 7 RX11) (by decide +kernel)) (hts (.instantiable RX11 9) (by decide +kernel)) (hts (.initialized RX11) (by decide +kernel)) hG hN hw hS rfl (fun j hj => by rcases (show j = 0 ∨ j = 1 ∨ j = 2 ∨ j = 3 ∨ j = 4 ∨ j = 5 ∨ j = 6 ∨ j = 7 ∨ j = 8 by omega) with rfl | rfl | rfl | rfl | rfl | rfl | rfl | rfl | rfl <;> rfl) (Nat.le_of_ble_eq_true rfl) (Nat.le_of_ble_eq_true rfl) rfl dL_law_0 (fun H hz hw hS => ?_)
  refine lv_dup hx hb dL_law_3 rfl ?_
  refine xIz ⟨hx, hb, hml, hown, hts⟩ (kX11_init l s.heap.size G _ s.heap.size (s.heap.size + 72) (by omega) (wu_eq _ _ _)) (cwI 0 hts gL_law_X11_init rfl rfl rfl (hts (.initialized RX11) (by decide +kernel)) (hts (.methodLink RL 9 yX11_init) (by decide +kernel)) (hts (.instanceMethod yX11_init) (by decide +kernel)) rfl (by decide +kernel) ⟨Nat.le_of_ble_eq_true rfl, Nat.le_of_ble_eq_true rfl⟩) hG hN hw hS hz rfl hl.1 rfl (Nat.le_of_ble_eq_true rfl) dL_law_4 ⟨Nat.le_of_ble_eq_true rfl, Nat.le_of_ble_eq_true rfl⟩ (fun r1 w1 H locs hp1 hz hw hS => ?_)
  obtain ⟨hq1, hO1⟩ := hp1
  refine xastore_n hx hb dL_law_7 hl (by decide) rfl (fun ls hl => ?_)
  refine xnew (C := RX12) (T := TX12) (N := 37) (fs := mfl V00) hx hb (ci := 12) hts0 in_wsX120 tyX12 tyX12_ok hown (hts (.classLink RL 10 RX12) (by decide +kernel)) (hts (.instantiable RX12 37) (by decide +kernel)) (hts (.initialized RX12) (by decide +kernel)) hG hN hw hS rfl (fun j hj => by rcases (show j = 0 ∨ j = 1 ∨ j = 2 ∨ j = 3 ∨ j = 4 ∨ j = 5 ∨ j = 6 ∨ j = 7 ∨ j = 8 ∨ j = 9 ∨ j = 10 ∨ j = 11 ∨ j = 12 ∨ j = 13 ∨ j = 14 ∨ j = 15 ∨ j = 16 ∨ j = 17 ∨ j = 18 ∨ j = 19 ∨ j = 20 ∨ j = 21 ∨ j = 22 ∨ j = 23 ∨ j = 24 ∨ j = 25 ∨ j = 26 ∨ j = 27 ∨ j = 28 ∨ j = 29 ∨ j = 30 ∨ j = 31 ∨ j = 32 ∨ j = 33 ∨ j = 34 ∨ j = 35 ∨ j = 36 by omega) with rfl | rfl | rfl | rfl | rfl | rfl | rfl | rfl | rfl | rfl | rfl | rfl | rfl | rfl | rfl | rfl | rfl | rfl | rfl | rfl | rfl | rfl | rfl | rfl | rfl | rfl | rfl | rfl | rfl | rfl | rfl | rfl | rfl | rfl | rfl | rfl | rfl <;> rfl) (Nat.le_of_ble_eq_true rfl) (Nat.le_of_ble_eq_true rfl) hz dL_law_8 (fun H hz hw hS => ?_)
  refine lv_dup hx hb dL_law_11 rfl ?_
  refine xIz ⟨hx, hb, hml, hown, hts⟩ (kX12_init l s.heap.size G _ (s.heap.size + 52) (wu_eq _ _ _)) (cwI 0 hts gL_law_X12_init rfl rfl rfl (hts (.initialized RX12) (by decide +kernel)) (hts (.methodLink RL 12 yX12_init) (by decide +kernel)) (hts (.instanceMethod yX12_init) (by decide +kernel)) rfl (by decide +kernel) ⟨Nat.le_of_ble_eq_true rfl, Nat.le_of_ble_eq_true rfl⟩) hG hN hw hS hz rfl hl.1 rfl (Nat.le_of_ble_eq_true rfl) dL_law_12 ⟨Nat.le_of_ble_eq_true rfl, Nat.le_of_ble_eq_true rfl⟩ (fun r2 w2 H locs hp2 hz hw hS => ?_)
  obtain ⟨⟨V2, hM2, hR2⟩, hO2⟩ := hp2
  have hO12 : Out w1 w2 (s.heap.size + 52) (s.heap.size + 72) := (Out.rf.wu (by omega) (by omega)).tr hO2 (by omega) (by omega)
  refine xastore_n hx hb dL_law_15 hl (by decide) rfl (fun ls hl => ?_)
  refine lv_iconst (v := nI 0) hx hb dL_law_16 (by decide) ?_
  refine xistore_n hx hb dL_law_17 hl (by decide) rfl (fun ls hl => ?_)
  refine W.widen (k := 72 + 5 * 0) (n := 1385 + 5 * 0) (Nat.le_of_ble_eq_true rfl) (Nat.le_of_ble_eq_true rfl) ?_
  exact law_loop hL C0 hG hK 65 0 S00 V2 _ w2 H locs ls (by omega) (by omega) (by omega) ⟨hq1.out hO12 (by omega) (by omega), hM2, hR2, wf_00⟩ (Nat.zero_le _) hw hS hl
