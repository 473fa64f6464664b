theorem gcd_last {a d : Nat} (h60 : d ≤ 60) (h0 : 1 ≤ d) (hno : ∀ z, d < z → z ≤ 60 → ¬ (a % z = 0 ∧ 60 % z = 0)) (h1 : a % d = 0) (h2 : 60 % d = 0) : Nat.gcd a 60 = d := by
  have hd : d ∣ Nat.gcd a 60 := Nat.dvd_gcd (Nat.dvd_of_mod_eq_zero h1) (Nat.dvd_of_mod_eq_zero h2)
  have hp : 0 < Nat.gcd a 60 := Nat.gcd_pos_of_pos_right a (by omega)
  have hle := Nat.le_of_dvd hp hd
  have hle2 : Nat.gcd a 60 ≤ 60 := Nat.le_of_dvd (by omega) (Nat.gcd_dvd_right a 60)
  rcases Nat.lt_or_ge d (Nat.gcd a 60) with h | h
  · exact absurd ⟨Nat.mod_eq_zero_of_dvd (Nat.gcd_dvd_left a 60), Nat.mod_eq_zero_of_dvd (Nat.gcd_dvd_right a 60)⟩ (hno _ h hle2)
  · omega
theorem gcd_one {a : Nat} (hno : ∀ z, 1 < z → z ≤ 60 → ¬ (a % z = 0 ∧ 60 % z = 0)) : Nat.gcd a 60 = 1 := gcd_last (by omega) (by omega) hno (Nat.mod_one a) (by decide)
theorem pcN_pos : ∀ b, b < 32 → b ≠ 0 → 0 < pcN b := by decide +kernel
set_option maxHeartbeats 4000000 in
set_option maxRecDepth 100000 in
theorem kX7_kind (l : Launch) (N0 : Nat) (G : XG) (w : Wd) (q : Nat) : XM l yX7_kind wsX7_kind (rmD 1) N0 G [.ref q] w vI (fun r w1 => nI 0 = r ∧ w = w1) 0 0 := by
  refine XM.of (cc := cX7_kind) (maxL := 1) (ret := (some .int)) (by decide) rfl (Nat.le_of_ble_eq_true rfl) ?_
  intro p e s m below meth c hx hb hr hlk hin0 hml hown hts hN hw hG hS ls hl
  have hown : s.vm.findClass RX7 = some m.cls := hown
  have hl : lh ls 1 [some (.ref q)] := hl
  refine lv_iconst (v := nI 0) hx hb dX7_kind_0 (by decide) ?_
  exact xiret hx hb hr hlk hw hS dX7_kind_1 ⟨rfl, rfl⟩
set_option maxHeartbeats 4000000 in
set_option maxRecDepth 100000 in
theorem kX1_kind (l : Launch) (N0 : Nat) (G : XG) (w : Wd) (q : Nat) : XM l yX1_kind wsX1_kind (rmD 1) N0 G [.ref q] w vI (fun r w1 => nI 1 = r ∧ w = w1) 0 0 := by
  refine XM.of (cc := cX1_kind) (maxL := 1) (ret := (some .int)) (by decide) rfl (Nat.le_of_ble_eq_true rfl) ?_
  intro p e s m below meth c hx hb hr hlk hin0 hml hown hts hN hw hG hS ls hl
  have hown : s.vm.findClass RX1 = some m.cls := hown
  have hl : lh ls 1 [some (.ref q)] := hl
  refine lv_iconst (v := nI 1) hx hb dX1_kind_0 (by decide) ?_
  exact xiret hx hb hr hlk hw hS dX1_kind_1 ⟨rfl, rfl⟩
set_option maxHeartbeats 4000000 in
set_option maxRecDepth 100000 in
theorem kX9_kind (l : Launch) (N0 : Nat) (G : XG) (w : Wd) (q : Nat) : XM l yX9_kind wsX9_kind (rmD 1) N0 G [.ref q] w vI (fun r w1 => nI 2 = r ∧ w = w1) 0 0 := by
  refine XM.of (cc := cX9_kind) (maxL := 1) (ret := (some .int)) (by decide) rfl (Nat.le_of_ble_eq_true rfl) ?_
  intro p e s m below meth c hx hb hr hlk hin0 hml hown hts hN hw hG hS ls hl
  have hown : s.vm.findClass RX9 = some m.cls := hown
  have hl : lh ls 1 [some (.ref q)] := hl
  refine lv_iconst (v := nI 2) hx hb dX9_kind_0 (by decide) ?_
  exact xiret hx hb hr hlk hw hS dX9_kind_1 ⟨rfl, rfl⟩
set_option maxHeartbeats 4000000 in
set_option maxRecDepth 100000 in
theorem kX3_kind (l : Launch) (N0 : Nat) (G : XG) (w : Wd) (q : Nat) : XM l yX3_kind wsX3_kind (rmD 1) N0 G [.ref q] w vI (fun r w1 => nI 3 = r ∧ w = w1) 0 0 := by
  refine XM.of (cc := cX3_kind) (maxL := 1) (ret := (some .int)) (by decide) rfl (Nat.le_of_ble_eq_true rfl) ?_
  intro p e s m below meth c hx hb hr hlk hin0 hml hown hts hN hw hG hS ls hl
  have hown : s.vm.findClass RX3 = some m.cls := hown
  have hl : lh ls 1 [some (.ref q)] := hl
  refine lv_iconst (v := nI 3) hx hb dX3_kind_0 (by decide) ?_
  exact xiret hx hb hr hlk hw hS dX3_kind_1 ⟨rfl, rfl⟩
set_option maxHeartbeats 4000000 in
set_option maxRecDepth 100000 in
theorem kX0_kind (l : Launch) (N0 : Nat) (G : XG) (w : Wd) (q : Nat) : XM l yX0_kind wsX0_kind (rmD 1) N0 G [.ref q] w vI (fun r w1 => nI 4 = r ∧ w = w1) 0 0 := by
  refine XM.of (cc := cX0_kind) (maxL := 1) (ret := (some .int)) (by decide) rfl (Nat.le_of_ble_eq_true rfl) ?_
  intro p e s m below meth c hx hb hr hlk hin0 hml hown hts hN hw hG hS ls hl
  have hown : s.vm.findClass RX0 = some m.cls := hown
  have hl : lh ls 1 [some (.ref q)] := hl
  refine lv_iconst (v := nI 4) hx hb dX0_kind_0 (by decide) ?_
  exact xiret hx hb hr hlk hw hS dX0_kind_1 ⟨rfl, rfl⟩
set_option maxHeartbeats 4000000 in
set_option maxRecDepth 100000 in
theorem kX7_keepsPens (l : Launch) (N0 : Nat) (G : XG) (w : Wd) (q : Nat) : XM l yX7_keepsPens wsX7_keepsPens (rmD 1) N0 G [.ref q] w vI (fun r w1 => bI false = r ∧ w = w1) 0 0 := by
  refine XM.of (cc := cX7_keepsPens) (maxL := 1) (ret := (some .boolean)) (by decide) rfl (Nat.le_of_ble_eq_true rfl) ?_
  intro p e s m below meth c hx hb hr hlk hin0 hml hown hts hN hw hG hS ls hl
  have hown : s.vm.findClass RX7 = some m.cls := hown
  have hl : lh ls 1 [some (.ref q)] := hl
  refine lv_iconst (v := nI 0) hx hb dX7_keepsPens_0 (by decide) ?_
  first | exact xzret hx hb hr hlk hw hS dX7_keepsPens_1 true rfl ⟨rfl, rfl⟩ | exact xzret hx hb hr hlk hw hS dX7_keepsPens_1 false rfl ⟨rfl, rfl⟩
set_option maxHeartbeats 4000000 in
set_option maxRecDepth 100000 in
theorem kX1_keepsPens (l : Launch) (N0 : Nat) (G : XG) (w : Wd) (q : Nat) : XM l yX1_keepsPens wsX1_keepsPens (rmD 1) N0 G [.ref q] w vI (fun r w1 => bI true = r ∧ w = w1) 0 0 := by
  refine XM.of (cc := cX1_keepsPens) (maxL := 1) (ret := (some .boolean)) (by decide) rfl (Nat.le_of_ble_eq_true rfl) ?_
  intro p e s m below meth c hx hb hr hlk hin0 hml hown hts hN hw hG hS ls hl
  have hown : s.vm.findClass RX1 = some m.cls := hown
  have hl : lh ls 1 [some (.ref q)] := hl
  refine lv_iconst (v := nI 1) hx hb dX1_keepsPens_0 (by decide) ?_
  first | exact xzret hx hb hr hlk hw hS dX1_keepsPens_1 true rfl ⟨rfl, rfl⟩ | exact xzret hx hb hr hlk hw hS dX1_keepsPens_1 false rfl ⟨rfl, rfl⟩
set_option maxHeartbeats 4000000 in
set_option maxRecDepth 100000 in
theorem kX7_endsTheRow (l : Launch) (N0 : Nat) (G : XG) (w : Wd) (q : Nat) : XM l yX7_endsTheRow wsX7_endsTheRow (rmD 1) N0 G [.ref q] w vI (fun r w1 => bI false = r ∧ w = w1) 0 0 := by
  refine XM.of (cc := cX7_endsTheRow) (maxL := 1) (ret := (some .boolean)) (by decide) rfl (Nat.le_of_ble_eq_true rfl) ?_
  intro p e s m below meth c hx hb hr hlk hin0 hml hown hts hN hw hG hS ls hl
  have hown : s.vm.findClass RX7 = some m.cls := hown
  have hl : lh ls 1 [some (.ref q)] := hl
  refine lv_iconst (v := nI 0) hx hb dX7_endsTheRow_0 (by decide) ?_
  first | exact xzret hx hb hr hlk hw hS dX7_endsTheRow_1 true rfl ⟨rfl, rfl⟩ | exact xzret hx hb hr hlk hw hS dX7_endsTheRow_1 false rfl ⟨rfl, rfl⟩
set_option maxHeartbeats 4000000 in
set_option maxRecDepth 100000 in
theorem kX9_endsTheRow (l : Launch) (N0 : Nat) (G : XG) (w : Wd) (q : Nat) : XM l yX9_endsTheRow wsX9_endsTheRow (rmD 1) N0 G [.ref q] w vI (fun r w1 => bI true = r ∧ w = w1) 0 0 := by
  refine XM.of (cc := cX9_endsTheRow) (maxL := 1) (ret := (some .boolean)) (by decide) rfl (Nat.le_of_ble_eq_true rfl) ?_
  intro p e s m below meth c hx hb hr hlk hin0 hml hown hts hN hw hG hS ls hl
  have hown : s.vm.findClass RX9 = some m.cls := hown
  have hl : lh ls 1 [some (.ref q)] := hl
  refine lv_iconst (v := nI 1) hx hb dX9_endsTheRow_0 (by decide) ?_
  first | exact xzret hx hb hr hlk hw hS dX9_endsTheRow_1 true rfl ⟨rfl, rfl⟩ | exact xzret hx hb hr hlk hw hS dX9_endsTheRow_1 false rfl ⟨rfl, rfl⟩
set_option maxHeartbeats 4000000 in
set_option maxRecDepth 100000 in
theorem kX7_canBeBound (l : Launch) (N0 : Nat) (G : XG) (w : Wd) (q : Nat) : XM l yX7_canBeBound wsX7_canBeBound (rmD 1) N0 G [.ref q] w vI (fun r w1 => bI true = r ∧ w = w1) 0 0 := by
  refine XM.of (cc := cX7_canBeBound) (maxL := 1) (ret := (some .boolean)) (by decide) rfl (Nat.le_of_ble_eq_true rfl) ?_
  intro p e s m below meth c hx hb hr hlk hin0 hml hown hts hN hw hG hS ls hl
  have hown : s.vm.findClass RX7 = some m.cls := hown
  have hl : lh ls 1 [some (.ref q)] := hl
  refine lv_iconst (v := nI 1) hx hb dX7_canBeBound_0 (by decide) ?_
  first | exact xzret hx hb hr hlk hw hS dX7_canBeBound_1 true rfl ⟨rfl, rfl⟩ | exact xzret hx hb hr hlk hw hS dX7_canBeBound_1 false rfl ⟨rfl, rfl⟩
set_option maxHeartbeats 4000000 in
set_option maxRecDepth 100000 in
theorem kX3_canBeBound (l : Launch) (N0 : Nat) (G : XG) (w : Wd) (q : Nat) : XM l yX3_canBeBound wsX3_canBeBound (rmD 1) N0 G [.ref q] w vI (fun r w1 => bI false = r ∧ w = w1) 0 0 := by
  refine XM.of (cc := cX3_canBeBound) (maxL := 1) (ret := (some .boolean)) (by decide) rfl (Nat.le_of_ble_eq_true rfl) ?_
  intro p e s m below meth c hx hb hr hlk hin0 hml hown hts hN hw hG hS ls hl
  have hown : s.vm.findClass RX3 = some m.cls := hown
  have hl : lh ls 1 [some (.ref q)] := hl
  refine lv_iconst (v := nI 0) hx hb dX3_canBeBound_0 (by decide) ?_
  first | exact xzret hx hb hr hlk hw hS dX3_canBeBound_1 true rfl ⟨rfl, rfl⟩ | exact xzret hx hb hr hlk hw hS dX3_canBeBound_1 false rfl ⟨rfl, rfl⟩
set_option maxHeartbeats 4000000 in
set_option maxRecDepth 100000 in
theorem kX7_worth_7 (l : Launch) (N0 : Nat) (G : XG) (w : Wd) (q v : Nat) (hq : w q = some (eO 7 [.int (nI v)])) : XM l yX7_worth wsX7_worth (rmD 1) N0 G [.ref q] w vI (fun r w1 => nI v = r ∧ w = w1) 0 0 := by
  refine XM.of (cc := cX7_worth) (maxL := 1) (ret := (some .int)) (by decide) rfl (Nat.le_of_ble_eq_true rfl) ?_
  intro p e s m below meth c hx hb hr hlk hin0 hml hown hts hN hw hG hS ls hl
  have hown : s.vm.findClass RX7 = some m.cls := hown
  have hiX7 : ∀ x ∈ u_ws RX7 TX7 1, x ∈ wsX7_worth := by decide +kernel
  have hlnk0 := hts (.fieldLink RX7 9 "LentQuill$Person" "value" "I") (by decide +kernel)
  have hl : lh ls 1 [some (.ref q)] := hl
  refine xaload_n hx hb dX7_worth_0 hl rfl ?_
  refine xget (C := RX7) (T := TX7) (N := 1) hx hb (ci := 7) hts hiX7 hown hG hw (by repeat first | assumption | exact wu_eq _ _ _ | refine wu_ne (by omega) ?_) rfl 0 (by decide) hlnk0 (fun _ h9 => h9) rfl dX7_worth_1 ?_
  exact xiret hx hb hr hlk hw hS dX7_worth_4 ⟨rfl, rfl⟩
set_option maxHeartbeats 4000000 in
set_option maxRecDepth 100000 in
theorem kX7_worth_1 (l : Launch) (N0 : Nat) (G : XG) (w : Wd) (q v : Nat) (hq : w q = some (eO 1 [.int (nI v)])) : XM l yX7_worth wsX7_worth (rmD 1) N0 G [.ref q] w vI (fun r w1 => nI v = r ∧ w = w1) 0 0 := by
  refine XM.of (cc := cX7_worth) (maxL := 1) (ret := (some .int)) (by decide) rfl (Nat.le_of_ble_eq_true rfl) ?_
  intro p e s m below meth c hx hb hr hlk hin0 hml hown hts hN hw hG hS ls hl
  have hown : s.vm.findClass RX7 = some m.cls := hown
  have hiX1 : ∀ x ∈ u_ws RX1 TX1 1, x ∈ wsX7_worth := by decide +kernel
  have hlnk0 := hts (.fieldLink RX7 9 "LentQuill$Person" "value" "I") (by decide +kernel)
  have hl : lh ls 1 [some (.ref q)] := hl
  refine xaload_n hx hb dX7_worth_0 hl rfl ?_
  refine xget (C := RX1) (T := TX1) (N := 1) hx hb (ci := 1) hts hiX1 hown hG hw (by repeat first | assumption | exact wu_eq _ _ _ | refine wu_ne (by omega) ?_) rfl 0 (by decide) hlnk0 (fun _ h9 => h9) rfl dX7_worth_1 ?_
  exact xiret hx hb hr hlk hw hS dX7_worth_4 ⟨rfl, rfl⟩
set_option maxHeartbeats 4000000 in
set_option maxRecDepth 100000 in
theorem kX7_worth_9 (l : Launch) (N0 : Nat) (G : XG) (w : Wd) (q v : Nat) (hq : w q = some (eO 9 [.int (nI v)])) : XM l yX7_worth wsX7_worth (rmD 1) N0 G [.ref q] w vI (fun r w1 => nI v = r ∧ w = w1) 0 0 := by
  refine XM.of (cc := cX7_worth) (maxL := 1) (ret := (some .int)) (by decide) rfl (Nat.le_of_ble_eq_true rfl) ?_
  intro p e s m below meth c hx hb hr hlk hin0 hml hown hts hN hw hG hS ls hl
  have hown : s.vm.findClass RX7 = some m.cls := hown
  have hiX9 : ∀ x ∈ u_ws RX9 TX9 1, x ∈ wsX7_worth := by decide +kernel
  have hlnk0 := hts (.fieldLink RX7 9 "LentQuill$Person" "value" "I") (by decide +kernel)
  have hl : lh ls 1 [some (.ref q)] := hl
  refine xaload_n hx hb dX7_worth_0 hl rfl ?_
  refine xget (C := RX9) (T := TX9) (N := 1) hx hb (ci := 9) hts hiX9 hown hG hw (by repeat first | assumption | exact wu_eq _ _ _ | refine wu_ne (by omega) ?_) rfl 0 (by decide) hlnk0 (fun _ h9 => h9) rfl dX7_worth_1 ?_
  exact xiret hx hb hr hlk hw hS dX7_worth_4 ⟨rfl, rfl⟩
set_option maxHeartbeats 4000000 in
set_option maxRecDepth 100000 in
theorem kX7_worth_3 (l : Launch) (N0 : Nat) (G : XG) (w : Wd) (q v : Nat) (hq : w q = some (eO 3 [.int (nI v)])) : XM l yX7_worth wsX7_worth (rmD 1) N0 G [.ref q] w vI (fun r w1 => nI v = r ∧ w = w1) 0 0 := by
  refine XM.of (cc := cX7_worth) (maxL := 1) (ret := (some .int)) (by decide) rfl (Nat.le_of_ble_eq_true rfl) ?_
  intro p e s m below meth c hx hb hr hlk hin0 hml hown hts hN hw hG hS ls hl
  have hown : s.vm.findClass RX7 = some m.cls := hown
  have hiX3 : ∀ x ∈ u_ws RX3 TX3 1, x ∈ wsX7_worth := by decide +kernel
  have hlnk0 := hts (.fieldLink RX7 9 "LentQuill$Person" "value" "I") (by decide +kernel)
  have hl : lh ls 1 [some (.ref q)] := hl
  refine xaload_n hx hb dX7_worth_0 hl rfl ?_
  refine xget (C := RX3) (T := TX3) (N := 1) hx hb (ci := 3) hts hiX3 hown hG hw (by repeat first | assumption | exact wu_eq _ _ _ | refine wu_ne (by omega) ?_) rfl 0 (by decide) hlnk0 (fun _ h9 => h9) rfl dX7_worth_1 ?_
  exact xiret hx hb hr hlk hw hS dX7_worth_4 ⟨rfl, rfl⟩
set_option maxHeartbeats 4000000 in
set_option maxRecDepth 100000 in
theorem kX7_worth_0 (l : Launch) (N0 : Nat) (G : XG) (w : Wd) (q v : Nat) (hq : w q = some (eO 0 [.int (nI v)])) : XM l yX7_worth wsX7_worth (rmD 1) N0 G [.ref q] w vI (fun r w1 => nI v = r ∧ w = w1) 0 0 := by
  refine XM.of (cc := cX7_worth) (maxL := 1) (ret := (some .int)) (by decide) rfl (Nat.le_of_ble_eq_true rfl) ?_
  intro p e s m below meth c hx hb hr hlk hin0 hml hown hts hN hw hG hS ls hl
  have hown : s.vm.findClass RX7 = some m.cls := hown
  have hiX0 : ∀ x ∈ u_ws RX0 TX0 1, x ∈ wsX7_worth := by decide +kernel
  have hlnk0 := hts (.fieldLink RX7 9 "LentQuill$Person" "value" "I") (by decide +kernel)
  have hl : lh ls 1 [some (.ref q)] := hl
  refine xaload_n hx hb dX7_worth_0 hl rfl ?_
  refine xget (C := RX0) (T := TX0) (N := 1) hx hb (ci := 0) hts hiX0 hown hG hw (by repeat first | assumption | exact wu_eq _ _ _ | refine wu_ne (by omega) ?_) rfl 0 (by decide) hlnk0 (fun _ h9 => h9) rfl dX7_worth_1 ?_
  exact xiret hx hb hr hlk hw hS dX7_worth_4 ⟨rfl, rfl⟩
set_option maxHeartbeats 4000000 in
set_option maxRecDepth 100000 in
theorem kX0_worth (l : Launch) (N0 : Nat) (G : XG) (w : Wd) (q v : Nat) (hq : w q = some (eO 0 [.int (nI v)])) : XM l yX0_worth wsX0_worth (rmD 2) N0 G [.ref q] w vI (fun r w1 => nI (2 * v) = r ∧ w = w1) 0 0 := by
  refine XM.of (cc := cX0_worth) (maxL := 1) (ret := (some .int)) (by decide) rfl (Nat.le_of_ble_eq_true rfl) ?_
  intro p e s m below meth c hx hb hr hlk hin0 hml hown hts hN hw hG hS ls hl
  have hown : s.vm.findClass RX0 = some m.cls := hown
  have hl : lh ls 1 [some (.ref q)] := hl
  refine lv_iconst (v := nI 2) hx hb dX0_worth_0 (by decide) ?_
  refine xaload_n hx hb dX0_worth_1 hl rfl ?_
  refine xsuperWorth hx hb hml hown (kX7_worth_0 l N0 G w q v hq) ⟨rfl, rfl, Nat.le_of_ble_eq_true rfl, Nat.le_of_ble_eq_true rfl⟩ hG hN hw hS hq hl.1 rfl (Nat.le_of_ble_eq_true rfl) dX0_worth_2 ⟨Nat.le_of_ble_eq_true rfl, Nat.le_of_ble_eq_true rfl⟩ (fun r w1 H locs hp hw hS => ?_)
  obtain ⟨rfl, rfl⟩ := hp
  first | refine xmul hx hb dX0_worth_5 ?_ | refine lv_imul hx hb dX0_worth_5 ?_
  exact xiret hx hb hr hlk hw hS dX0_worth_6 ⟨rfl, rfl⟩
set_option maxHeartbeats 4000000 in
set_option maxRecDepth 100000 in
theorem kJ6_bitCount_0f7a4 (l : Launch) (N0 : Nat) (G : XG) (w : Wd) (n : Nat) (hn : n < 32) : XM l yJ6_bitCount_0f7a4 wsJ6_bitCount_0f7a4 (rmD 1) N0 G [.int (nI n)] w vI (fun r w1 => nI (pcN n) = r ∧ w = w1) 0 0 := by
  refine XM.of (cc := cJ6_bitCount_0f7a4) (maxL := 1) (ret := (some .int)) (by decide) rfl (Nat.le_of_ble_eq_true rfl) ?_
  intro p e s m below meth c hx hb hr hlk hin0 hml hown hts hN hw hG hS ls hl
  have hown : s.vm.findClass RJ6 = some m.cls := hown
  have hlnk0 := hts (.constant RJ6 265 (1431655765)) (by decide +kernel)
  have hlnk1 := hts (.constant RJ6 266 (858993459)) (by decide +kernel)
  have hlnk2 := hts (.constant RJ6 267 (252645135)) (by decide +kernel)
  have hl : lh ls 1 [some (.int (nI n))] := hl
  refine xiload_n hx hb dJ6_bitCount_0f7a4_0 hl rfl ?_
  refine xiload_n hx hb dJ6_bitCount_0f7a4_1 hl rfl ?_
  refine lv_iconst (v := nI 1) hx hb dJ6_bitCount_0f7a4_2 (by decide) ?_
  refine lv_iushr hx hb dJ6_bitCount_0f7a4_3 rfl ?_
  refine lv_ldcw hx hb hown hlnk0 dJ6_bitCount_0f7a4_4 ?_
  refine xtop (y := nI 1431655765) (by decide) ?_
  first | refine xand hx hb dJ6_bitCount_0f7a4_7 ?_ | refine lv_iand hx hb dJ6_bitCount_0f7a4_7 ?_
  first | refine xsub hx hb dJ6_bitCount_0f7a4_8 (by omega) ?_ | refine lv_isub hx hb dJ6_bitCount_0f7a4_8 ?_
  refine xistore_n hx hb dJ6_bitCount_0f7a4_9 hl (by decide) rfl (fun ls hl => ?_)
  refine xiload_n hx hb dJ6_bitCount_0f7a4_10 hl rfl ?_
  refine lv_ldcw hx hb hown hlnk1 dJ6_bitCount_0f7a4_11 ?_
  refine xtop (y := nI 858993459) (by decide) ?_
  first | refine xand hx hb dJ6_bitCount_0f7a4_14 ?_ | refine lv_iand hx hb dJ6_bitCount_0f7a4_14 ?_
  refine xiload_n hx hb dJ6_bitCount_0f7a4_15 hl rfl ?_
  refine lv_iconst (v := nI 2) hx hb dJ6_bitCount_0f7a4_16 (by decide) ?_
  refine lv_iushr hx hb dJ6_bitCount_0f7a4_17 rfl ?_
  refine lv_ldcw hx hb hown hlnk1 dJ6_bitCount_0f7a4_18 ?_
  refine xtop (y := nI 858993459) (by decide) ?_
  first | refine xand hx hb dJ6_bitCount_0f7a4_21 ?_ | refine lv_iand hx hb dJ6_bitCount_0f7a4_21 ?_
  first | refine xadd hx hb dJ6_bitCount_0f7a4_22 ?_ | refine lv_iadd hx hb dJ6_bitCount_0f7a4_22 ?_
  refine xistore_n hx hb dJ6_bitCount_0f7a4_23 hl (by decide) rfl (fun ls hl => ?_)
  refine xiload_n hx hb dJ6_bitCount_0f7a4_24 hl rfl ?_
  refine xiload_n hx hb dJ6_bitCount_0f7a4_25 hl rfl ?_
  refine lv_iconst (v := nI 4) hx hb dJ6_bitCount_0f7a4_26 (by decide) ?_
  refine lv_iushr hx hb dJ6_bitCount_0f7a4_27 rfl ?_
  first | refine xadd hx hb dJ6_bitCount_0f7a4_28 ?_ | refine lv_iadd hx hb dJ6_bitCount_0f7a4_28 ?_
  refine lv_ldcw hx hb hown hlnk2 dJ6_bitCount_0f7a4_29 ?_
  refine xtop (y := nI 252645135) (by decide) ?_
  first | refine xand hx hb dJ6_bitCount_0f7a4_32 ?_ | refine lv_iand hx hb dJ6_bitCount_0f7a4_32 ?_
  refine xistore_n hx hb dJ6_bitCount_0f7a4_33 hl (by decide) rfl (fun ls hl => ?_)
  refine xiload_n hx hb dJ6_bitCount_0f7a4_34 hl rfl ?_
  refine xiload_n hx hb dJ6_bitCount_0f7a4_35 hl rfl ?_
  refine lv_bipush (v := nI 8) hx hb dJ6_bitCount_0f7a4_36 (by decide) ?_
  refine lv_iushr hx hb dJ6_bitCount_0f7a4_38 rfl ?_
  first | refine xadd hx hb dJ6_bitCount_0f7a4_39 ?_ | refine lv_iadd hx hb dJ6_bitCount_0f7a4_39 ?_
  refine xistore_n hx hb dJ6_bitCount_0f7a4_40 hl (by decide) rfl (fun ls hl => ?_)
  refine xiload_n hx hb dJ6_bitCount_0f7a4_41 hl rfl ?_
  refine xiload_n hx hb dJ6_bitCount_0f7a4_42 hl rfl ?_
  refine lv_bipush (v := nI 16) hx hb dJ6_bitCount_0f7a4_43 (by decide) ?_
  refine lv_iushr hx hb dJ6_bitCount_0f7a4_45 rfl ?_
  first | refine xadd hx hb dJ6_bitCount_0f7a4_46 ?_ | refine lv_iadd hx hb dJ6_bitCount_0f7a4_46 ?_
  refine xistore_n hx hb dJ6_bitCount_0f7a4_47 hl (by decide) rfl (fun ls hl => ?_)
  refine xiload_n hx hb dJ6_bitCount_0f7a4_48 hl rfl ?_
  refine lv_bipush (v := nI 63) hx hb dJ6_bitCount_0f7a4_49 (by decide) ?_
  first | refine xand hx hb dJ6_bitCount_0f7a4_51 ?_ | refine lv_iand hx hb dJ6_bitCount_0f7a4_51 ?_
  exact xiret hx hb hr hlk hw hS dJ6_bitCount_0f7a4_52 ⟨by rcases (show n = 0 ∨ n = 1 ∨ n = 2 ∨ n = 3 ∨ n = 4 ∨ n = 5 ∨ n = 6 ∨ n = 7 ∨ n = 8 ∨ n = 9 ∨ n = 10 ∨ n = 11 ∨ n = 12 ∨ n = 13 ∨ n = 14 ∨ n = 15 ∨ n = 16 ∨ n = 17 ∨ n = 18 ∨ n = 19 ∨ n = 20 ∨ n = 21 ∨ n = 22 ∨ n = 23 ∨ n = 24 ∨ n = 25 ∨ n = 26 ∨ n = 27 ∨ n = 28 ∨ n = 29 ∨ n = 30 ∨ n = 31 by omega) with rfl | rfl | rfl | rfl | rfl | rfl | rfl | rfl | rfl | rfl | rfl | rfl | rfl | rfl | rfl | rfl | rfl | rfl | rfl | rfl | rfl | rfl | rfl | rfl | rfl | rfl | rfl | rfl | rfl | rfl | rfl | rfl <;> decide +kernel, rfl⟩
set_option maxHeartbeats 4000000 in
set_option maxRecDepth 100000 in
theorem kX11_holds (l : Launch) (N0 : Nat) (G : XG) (w : Wd) (n k : Nat) (hn : n < 32) (hk : k < 5) : XM l yX11_holds wsX11_holds (rmD 1) N0 G [.int (nI n), .int (nI k)] w vI (fun r w1 => bI (n.testBit k) = r ∧ w = w1) 0 0 := by
  refine XM.of (cc := cX11_holds) (maxL := 2) (ret := (some .boolean)) (by decide) rfl (Nat.le_of_ble_eq_true rfl) ?_
  intro p e s m below meth c hx hb hr hlk hin0 hml hown hts hN hw hG hS ls hl
  have hown : s.vm.findClass RX11 = some m.cls := hown
  have hl : lh ls 2 [some (.int (nI n)), some (.int (nI k))] := hl
  have hmm := Nat.mod_lt (n / 2 ^ k) (show 0 < 2 by omega)
  refine xiload_n hx hb dX11_holds_0 hl rfl ?_
  refine xiload_n hx hb dX11_holds_1 hl rfl ?_
  first | refine xshr hx hb dX11_holds_2 (by omega) (by omega) ?_ | refine lv_ishr hx hb dX11_holds_2 ?_
  refine lv_iconst (v := nI 1) hx hb dX11_holds_3 (by decide) ?_
  refine xand1 hx hb dX11_holds_4 ?_
  refine lv_iconst (v := nI 1) hx hb dX11_holds_5 (by decide) ?_
  first | refine xcmp_ne (tgt := 13) hx hb dX11_holds_6 (by decide) (by omega) (by omega) (fun c6 => ?_) (fun c6 => ?_) | refine lv_icmp_ne (tgt := 13) hx hb dX11_holds_6 (by decide) (fun c6 => ?_) (fun c6 => ?_)
  · skip
    refine lv_iconst (v := nI 0) hx hb dX11_holds_13 (by decide) ?_
    first | exact xzret hx hb hr hlk hw hS dX11_holds_14 true rfl ⟨congrArg bI ((testBit_dm n k).trans (decide_eq_true (by omega))), rfl⟩ | exact xzret hx hb hr hlk hw hS dX11_holds_14 false rfl ⟨congrArg bI ((testBit_dm n k).trans (decide_eq_false (by omega))), rfl⟩
  · skip
    refine lv_iconst (v := nI 1) hx hb dX11_holds_9 (by decide) ?_
    refine lv_goto (tgt := 14) hx hb dX11_holds_10 (by decide) ?_
    first | exact xzret hx hb hr hlk hw hS dX11_holds_14 true rfl ⟨congrArg bI ((testBit_dm n k).trans (decide_eq_true (by omega))), rfl⟩ | exact xzret hx hb hr hlk hw hS dX11_holds_14 false rfl ⟨congrArg bI ((testBit_dm n k).trans (decide_eq_false (by omega))), rfl⟩
set_option maxHeartbeats 4000000 in
set_option maxRecDepth 100000 in
theorem kX11_shareOf (l : Launch) (N0 : Nat) (G : XG) (w : Wd) (d b : Nat) (hd : d ≤ 9) (hb32 : b < 32) (hb0 : b ≠ 0) : XM l yX11_shareOf wsX11_shareOf (rmD 2) N0 G [.int (nI d), .int (nI b)] w vI (fun r w1 => nI (60 * d / pcN b) = r ∧ w = w1) 0 0 := by
  refine XM.of (cc := cX11_shareOf) (maxL := 3) (ret := (some .int)) (by decide) rfl (Nat.le_of_ble_eq_true rfl) ?_
  intro p e s m below meth c hx hb hr hlk hin0 hml hown hts hN hw hG hS ls hl
  have hown : s.vm.findClass RX11 = some m.cls := hown
  have hl : lh ls 3 [some (.int (nI d)), some (.int (nI b)), none] := hl
  have hp1 := pcN_pos b hb32 hb0
  have hp5 := pcN_le b
  refine xiload_n hx hb dX11_shareOf_0 hl rfl ?_
  refine xSi ⟨hx, hb, hml, hown, hts⟩ (kJ6_bitCount_0f7a4 l N0 G _ b hb32) (va_cwS 1 hts gX11_shareOf_J6_bitCount_0f7a4 rfl rfl rfl (by decide +kernel) ⟨Nat.le_of_ble_eq_true rfl, Nat.le_of_ble_eq_true rfl⟩) hG hN hw hS rfl hl.1 rfl (Nat.le_of_ble_eq_true rfl) dX11_shareOf_1 ⟨Nat.le_of_ble_eq_true rfl, Nat.le_of_ble_eq_true rfl⟩ (fun r1 w1 H locs hp1 hw hS => ?_)
  obtain ⟨rfl, rfl⟩ := hp1
  refine xistore_n hx hb dX11_shareOf_4 hl (by decide) rfl (fun ls hl => ?_)
  refine xiload_n hx hb dX11_shareOf_5 hl rfl ?_
  refine lv_iconst (v := nI 1) hx hb dX11_shareOf_6 (by decide) ?_
  first | refine xcmp_ge (tgt := 14) hx hb dX11_shareOf_7 (by decide) (by omega) (by omega) (fun c7 => ?_) (fun c7 => ?_) | refine lv_icmp_ge (tgt := 14) hx hb dX11_shareOf_7 (by decide) (fun c7 => ?_) (fun c7 => ?_)
  · skip
    refine xiload_n hx hb dX11_shareOf_14 hl rfl ?_
    refine lv_bipush (v := nI 60) hx hb dX11_shareOf_15 (by decide) ?_
    first | refine xmul hx hb dX11_shareOf_17 ?_ | refine lv_imul hx hb dX11_shareOf_17 ?_
    refine xiload_n hx hb dX11_shareOf_18 hl rfl ?_
    refine xdiv hx hb dX11_shareOf_19 (by omega) (by omega) (by omega) ?_
    exact xiret hx hb hr hlk hw hS dX11_shareOf_20 ⟨by rw [Nat.mul_comm], rfl⟩
  · skip
    exfalso
    omega
set_option maxHeartbeats 4000000 in
set_option maxRecDepth 100000 in
theorem kX11_mix (l : Launch) (N0 : Nat) (G : XG) (w : Wd) (h : Int64) (x : Int32) : XM l yX11_mix wsX11_mix (rmD 1) N0 G [.long h, .int x] w vL (fun r w1 => 31 * h + x.toInt64 = r ∧ w = w1) 0 0 := by
  refine XM.of (cc := cX11_mix) (maxL := 3) (ret := (some .long)) (by decide) rfl (Nat.le_of_ble_eq_true rfl) ?_
  intro p e s m below meth c hx hb hr hlk hin0 hml hown hts hN hw hG hS ls hl
  have hown : s.vm.findClass RX11 = some m.cls := hown
  have hlnk0 := hts (.constantLong RX11 280 (31)) (by decide +kernel)
  have hl : lh ls 3 [some (.long h), none, some (.int x)] := hl
  refine lv_ldc2 hx hb hown hlnk0 dX11_mix_0 ?_
  refine xtopl (y := lN 31) (by decide) ?_
  refine xlload_n hx hb dX11_mix_3 hl rfl ?_
  refine lv_lmul hx hb dX11_mix_4 ?_
  refine xiload_n hx hb dX11_mix_5 hl rfl ?_
  first | refine xi2l hx hb dX11_mix_6 (by omega) ?_ | refine lv_i2l hx hb dX11_mix_6 rfl ?_
  refine lv_ladd hx hb dX11_mix_7 ?_
  exact xlret hx hb hr hlk hw hS dX11_mix_8 ⟨rfl, rfl⟩
set_option maxHeartbeats 4000000 in
set_option maxRecDepth 100000 in
theorem kX11_lowest (l : Launch) (N0 : Nat) (G : XG) (w : Wd) (tm a : Nat) (ht : tm < 100000) (ha : a < 100000) : XM l yX11_lowest wsX11_lowest (rmD 1) N0 G [.int (nI tm), .int (nI a)] w vI (fun r w1 => nI (tm / Nat.gcd a 60) = r ∧ w = w1) 0 0 := by
  refine XM.of (cc := cX11_lowest) (maxL := 3) (ret := (some .int)) (by decide) rfl (Nat.le_of_ble_eq_true rfl) ?_
  intro p e s m below meth c hx hb hr hlk hin0 hml hown hts hN hw hG hS ls hl
  have hown : s.vm.findClass RX11 = some m.cls := hown
  have hl : lh ls 3 [some (.int (nI tm)), some (.int (nI a)), none] := hl
  refine lv_bipush (v := nI 60) hx hb dX11_lowest_0 (by decide) ?_
  refine xistore_n hx hb dX11_lowest_2 hl (by decide) rfl (fun ls hl => ?_)
  have loop3 : ∀ (nf : Nat) (d : Nat) (H : Heap) (locs : List Loc) (ls : Array Slot), d < nf → (d ≤ 60) → (1 ≤ d) → (∀ z, d < z → z ≤ 60 → ¬ (a % z = 0 ∧ 60 % z = 0)) → PW N0 G w H → va_S (fun q => N0 ≤ q) s.heap H locs → lh ls 3 [some (.int (nI tm)), some (.int (nI a)), some (.int (nI d))] → W p l e (rmD 1) s m ([.int (nI tm), .int (nI a)] : List Value).toArray below meth c H locs 0 0 (MQ below (XQ N0 G vI (fun r w1 => nI (tm / Nat.gcd a 60) = r ∧ w = w1)) ([.int (nI tm), .int (nI a)] : List Value).toArray s 0 0 (fun q => N0 ≤ q)) (F0 m 3 ls []) := by
    intro nf
    induction nf with
    | zero => intros; omega
    | succ nf ih3 =>
      intro d H locs ls hnf h60 h0 hno hw hS hl
      refine xiload_n hx hb dX11_lowest_3 hl rfl ?_
      refine lv_iconst (v := nI 1) hx hb dX11_lowest_4 (by decide) ?_
      first | refine xcmp_le (tgt := 31) hx hb dX11_lowest_5 (by decide) (by omega) (by omega) (fun c5 => ?_) (fun c5 => ?_) | refine lv_icmp_le (tgt := 31) hx hb dX11_lowest_5 (by decide) (fun c5 => ?_) (fun c5 => ?_)
      · skip
        refine xiload_n hx hb dX11_lowest_31 hl rfl ?_
        exact xiret hx hb hr hlk hw hS dX11_lowest_32 ⟨congrArg nI ((congrArg (fun z => tm / z) (gcd_one (fun z h1 h2 => hno z (by omega) h2))).trans (Nat.div_one tm)), rfl⟩
      · skip
        refine xiload_n hx hb dX11_lowest_8 hl rfl ?_
        refine xiload_n hx hb dX11_lowest_9 hl rfl ?_
        refine xrem hx hb dX11_lowest_10 (by omega) (by omega) (by omega) ?_
        have hm1 := Nat.mod_lt a (show d > 0 by omega)
        first | refine xifb_ne (tgt := 25) hx hb dX11_lowest_11 (by decide) (fun c11 => ?_) (fun c11 => ?_) | refine xif_ne (tgt := 25) hx hb dX11_lowest_11 (by decide) (by omega) (fun c11 => ?_) (fun c11 => ?_) | refine lv_if_ne (tgt := 25) hx hb dX11_lowest_11 (by decide) (fun c11 => ?_) (fun c11 => ?_)
        · skip
          refine xiinc hx hb dX11_lowest_25 hl rfl rfl (by decide) rfl (fun ls hl => ?_)
          refine lv_goto (tgt := 3) hx hb dX11_lowest_28 (by decide) ?_
          have hl : lh ls 3 [some (.int (nI tm)), some (.int (nI a)), some (.int (nI (d - 1)))] := by
            have e : nI d + Int32.ofInt (-1) = nI (d - 1) := sb_m1 (by omega)
            rw [e] at hl
            exact hl
          exact ih3 (d - 1) _ _ _ (by omega) (by omega) (by omega) (fun z h1 h2 => by
            rcases Nat.lt_or_ge d z with h3 | h3
            · exact hno z h3 h2
            · obtain rfl : z = d := by omega
              intro h4
              first | exact c18 h4.2 | exact c11 h4.1) hw hS hl
        · skip
          refine lv_bipush (v := nI 60) hx hb dX11_lowest_14 (by decide) ?_
          refine xiload_n hx hb dX11_lowest_16 hl rfl ?_
          refine xrem hx hb dX11_lowest_17 (by omega) (by omega) (by omega) ?_
          have hm2 := Nat.mod_lt 60 (show d > 0 by omega)
          first | refine xifb_ne (tgt := 25) hx hb dX11_lowest_18 (by decide) (fun c18 => ?_) (fun c18 => ?_) | refine xif_ne (tgt := 25) hx hb dX11_lowest_18 (by decide) (by omega) (fun c18 => ?_) (fun c18 => ?_) | refine lv_if_ne (tgt := 25) hx hb dX11_lowest_18 (by decide) (fun c18 => ?_) (fun c18 => ?_)
          · skip
            refine xiinc hx hb dX11_lowest_25 hl rfl rfl (by decide) rfl (fun ls hl => ?_)
            refine lv_goto (tgt := 3) hx hb dX11_lowest_28 (by decide) ?_
            have hl : lh ls 3 [some (.int (nI tm)), some (.int (nI a)), some (.int (nI (d - 1)))] := by
              have e : nI d + Int32.ofInt (-1) = nI (d - 1) := sb_m1 (by omega)
              rw [e] at hl
              exact hl
            exact ih3 (d - 1) _ _ _ (by omega) (by omega) (by omega) (fun z h1 h2 => by
              rcases Nat.lt_or_ge d z with h3 | h3
              · exact hno z h3 h2
              · obtain rfl : z = d := by omega
                intro h4
                first | exact c18 h4.2 | exact c11 h4.1) hw hS hl
          · skip
            refine xiload_n hx hb dX11_lowest_21 hl rfl ?_
            refine xiload_n hx hb dX11_lowest_22 hl rfl ?_
            refine xdiv hx hb dX11_lowest_23 (by omega) (by omega) (by omega) ?_
            exact xiret hx hb hr hlk hw hS dX11_lowest_24 ⟨congrArg (fun z => nI (tm / z)) (gcd_last h60 h0 hno c11 c18), rfl⟩
  exact loop3 61 60 _ _ _ (by omega) (by omega) (by omega) (fun z h1 h2 => by omega) hw hS hl
