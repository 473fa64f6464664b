/-! ===== making people ===== -/
/-- below Z, outside [lo, hi), nothing has changed -/
def OutZ (w w1 : Wd) (lo hi Z : Nat) : Prop := ∀ a, a < Z → (a < lo ∨ hi ≤ a) → w1 a = w a
theorem Out.z {w w1 : Wd} {lo hi : Nat} (h : Out w w1 lo hi) (Z : Nat) : OutZ w w1 lo hi Z := fun a _ h2 => h a h2
theorem OutZ.tr {w w1 w2 : Wd} {lo hi lo1 hi1 lo2 hi2 Z : Nat} (h : OutZ w w1 lo1 hi1 Z) (h1 : OutZ w1 w2 lo2 hi2 Z) (a : lo ≤ lo1) (b : hi1 ≤ hi) (c : lo ≤ lo2) (d : hi2 ≤ hi) : OutZ w w2 lo hi Z := fun q hq ho => (h1 q hq (by omega)).trans (h q hq (by omega))
theorem RPage.outz {G : XG} {w w1 : Wd} {p0 lo hi Z : Nat} {pg : List Nat} (h : RPage G w p0 pg) (ho : OutZ w w1 lo hi Z) (hd : p0 + 2 ≤ lo ∨ hi ≤ p0) (hz : p0 + 2 ≤ Z) : RPage G w1 p0 pg := h.keep (ho _ (by omega) (by omega)) (ho _ (by omega) (by omega))
theorem RPen.outz {G : XG} {w w1 : Wd} {p lo hi Z : Nat} {h : List Nat} (hp : RPen G w p h) (ho : OutZ w w1 lo hi Z) (hd : p + 2 ≤ lo ∨ hi ≤ p) (hz : p + 2 ≤ Z) : RPen G w1 p h := hp.keep (ho _ (by omega) (by omega)) (ho _ (by omega) (by omega))
theorem RBooks.outz {G : XG} {w w1 : Wd} {b lo hi Z : Nat} {pn : Nat → List Nat} {ds : List (Nat × Nat)} {hd : List (Nat × Bool)} (h : RBooks G w b pn ds hd) (ho : OutZ w w1 lo hi Z) (hd0 : b + 14 ≤ lo ∨ hi ≤ b) (hz : b + 14 ≤ Z) : RBooks G w1 b pn ds hd := by
  obtain ⟨g, fd, fb, a0, a1, a2, a3, a4, a5, a6, a7, a8, a9, a10⟩ := h
  exact ⟨g, fd, fb, (ho _ (by omega) (by omega)).trans a0, (ho _ (by omega) (by omega)).trans a1, (ho _ (by omega) (by omega)).trans a2, (ho _ (by omega) (by omega)).trans a3, a4, a5, a6, a7, a8, a9, fun i hi2 => (a10 i hi2).outz ho (by omega) (by omega)⟩
theorem RSrch.outz {G : XG} {w w1 : Wd} {s0 lo hi Z : Nat} {h : List Nat} {S : TS} {fw fr : Int32} (hR : RSrch G w s0 h S fw fr) (ho : OutZ w w1 lo hi Z) (hd : s0 + 4 ≤ lo ∨ hi ≤ s0) (hz : s0 + 4 ≤ Z) : RSrch G w1 s0 h S fw fr := by
  obtain ⟨f, a, b, c, d⟩ := hR
  exact ⟨f, (ho _ (by omega) (by omega)).trans a, (ho _ (by omega) (by omega)).trans b, c, d.outz ho (by omega) (by omega)⟩
theorem pci_cl {G : XG} {s : State} {k : Nat} (hG : GK G s) (hk : k ≤ 4) : ∃ (C : String) (T : u_T) (N : Nat), vwCl[pci k]? = some (C, T, N) ∧ (C = "LentQuill$Person" ∨ va_Nw (.castable C "LentQuill$Person") s) := by
  have h := hG.2.2.1.2.2.2.2.2.2
  rcases (show k = 0 ∨ k = 1 ∨ k = 2 ∨ k = 3 ∨ k = 4 by omega) with rfl | rfl | rfl | rfl | rfl
  · exact ⟨RX7, TX7, 1, rfl, Or.inl rfl⟩
  · exact ⟨RX1, TX1, 1, rfl, Or.inr h.1⟩
  · exact ⟨RX9, TX9, 1, rfl, Or.inr h.2.1⟩
  · exact ⟨RX3, TX3, 1, rfl, Or.inr h.2.2.1⟩
  · exact ⟨RX0, TX0, 1, rfl, Or.inr h.2.2.2⟩
theorem rf_step {w1 w2 : Wd} {g1 : Nat → Option Nat} {pg : List Nat} {i k q t v Z : Nat} {x : va_E} (hg1 : ∀ j, j < i → ∃ q, g1 j = some q ∧ Z ≤ q ∧ w1 q = some (eO (pci (kd (tP pg) j)) [.int (nI (wo (tP pg) j))])) (hqn : w1 q = none) (hq1 : w2 q = some (eO (pci k) [.int (nI v)])) (hqo : ∀ a, a ≠ q → w2 a = w1 a) (htZ : t < Z ∧ Z ≤ q) (hk : kd (tP pg) i = k) (hv : wo (tP pg) i = v) : ∀ j, j < i + 1 → ∃ q', va_up g1 i (some q) j = some q' ∧ Z ≤ q' ∧ wu w2 t x q' = some (eO (pci (kd (tP pg) j)) [.int (nI (wo (tP pg) j))]) := by
  intro j hj
  by_cases hji : j = i
  · subst hji
    refine ⟨q, vup_eq _ _ _, htZ.2, ?_⟩
    rw [wu_nq (by omega), hq1, hk, hv]
  · obtain ⟨q', h1, h2, h3⟩ := hg1 j (by omega)
    refine ⟨q', by rw [vup_ne _ _ hji]; exact h1, h2, ?_⟩
    have hne : q' ≠ q := fun e => by rw [e, hqn] at h3; cases h3
    rw [wu_nq (by omega), hqo _ hne]
    exact h3
theorem rf_rep {G : XG} {w1 : Wd} {g1 : Nat → Option Nat} {pg : List Nat} {i t0 Z : Nat} (e1 : w1 (t0 + 1) = some (eP G 5 g1)) (hg1 : ∀ j, j < i → ∃ q, g1 j = some q ∧ Z ≤ q ∧ w1 q = some (eO (pci (kd (tP pg) j)) [.int (nI (wo (tP pg) j))])) (hge : pg.length / 3 ≤ i) (hi : i ≤ pg.length / 3) (hpp : ∀ i, i < pg.length / 3 → ∃ k, kN (pgc pg (3 * i)) = some k ∧ k ≤ 4 ∧ 48 ≤ pgc pg (3 * i + 1) ∧ pgc pg (3 * i + 1) ≤ 57) (hn5 : pg.length / 3 ≤ 5) (hl53 : pgc pg (pg.length - 1) ≤ 53) (hZ : t0 + 3 ≤ Z := by omega) : RTown G (wu w1 t0 (eO 10 [.ref (t0 + 1), .int (nI (pg.length / 3)), .int (nI (pgc pg (pg.length - 1) - 48))])) t0 Z (tP pg) (tL pg) := by
  refine ⟨g1, ?_, by rw [wu_nq (by omega)]; exact e1, by rw [tP_len]; exact hn5, by unfold tL; omega, fun j hj => ?_⟩
  · rw [wu_eq, tP_len]
    rfl
  · rw [tP_len] at hj
    obtain ⟨k, h1, h2, h3, h4⟩ := hpp j hj
    obtain ⟨q, h5, h6, h7⟩ := hg1 j (by omega)
    refine ⟨by rw [(tP_at hj).1, h1]; exact h2, by rw [(tP_at hj).2]; omega, q, h5, h6, by rw [wu_nq (by omega)]; exact h7⟩
set_option maxHeartbeats 4000000 in
set_option maxRecDepth 100000 in
theorem kX7_init_7 (l : Launch) (N0 : Nat) (G : XG) (w : Wd) (q v : Nat) (hq : w q = some (eO 7 [.int 0])) : XM l yX7_init wsX7_init (rmD 1) N0 G [.ref q, .int (nI v)] w vV (fun _ w1 => wu w q (eO 7 [.int (nI v)]) = w1) 0 0 := by
  refine XM.of (cc := cX7_init) (maxL := 2) (ret := none) (by decide) rfl (Nat.le_of_ble_eq_true rfl) ?_
  intro p e s m below meth c hx hb hr hlk hin0 hml hown hts hN hw hG hS ls hl
  have hown : s.vm.findClass RX7 = some m.cls := hown
  have hiX7 : ∀ x ∈ u_ws RX7 TX7 1, x ∈ wsX7_init := by decide +kernel
  have hlnk0 := hts (.methodLink RX7 3 objectInit) (by decide +kernel)
  have hlnk1 := hts (.instanceMethod objectInit) (by decide +kernel)
  have hlnk2 := hts (.code objectInit ⟨#[0xb1]⟩ 1 none) (by decide +kernel)
  have hlnk3 := hts (.fieldLink RX7 9 "LentQuill$Person" "value" "I") (by decide +kernel)
  have hl : lh ls 2 [some (.ref q), some (.int (nI v))] := hl
  refine xaload_n hx hb dX7_init_0 hl rfl ?_
  refine W.objInit hx hb hown hlnk0 hlnk1 hlnk2 rfl (by rw [hml]; exact hl.1) rfl dX7_init_1 (Nat.le_of_ble_eq_true rfl) (Nat.le_of_ble_eq_true rfl) ?_
  refine xaload_n hx hb dX7_init_4 hl rfl ?_
  refine xiload_n hx hb dX7_init_5 hl rfl ?_
  refine xputF (C := RX7) (T := TX7) (N := 1) hx hb (ci := 7) (ty := .int) hts hiX7 tyX7 tyX7_ok nmX7 hown hG hw hS (by repeat first | assumption | exact wu_eq _ _ _ | refine wu_ne (by omega) ?_) rfl 0 (by decide) hlnk3 (fun _ h9 => h9) rfl (hin0 rfl) rfl (by decide +kernel) rfl rfl (Nat.le_of_ble_eq_true rfl) dX7_init_6 (fun H locs hzz hw hS => ?_)
  exact xvret hx hb hr hlk hw hS dX7_init_9 (rfl)
set_option maxHeartbeats 4000000 in
set_option maxRecDepth 100000 in
theorem kX7_init_1 (l : Launch) (N0 : Nat) (G : XG) (w : Wd) (q v : Nat) (hq : w q = some (eO 1 [.int 0])) : XM l yX7_init wsX7_init (rmD 1) N0 G [.ref q, .int (nI v)] w vV (fun _ w1 => wu w q (eO 1 [.int (nI v)]) = w1) 0 0 := by
  refine XM.of (cc := cX7_init) (maxL := 2) (ret := none) (by decide) rfl (Nat.le_of_ble_eq_true rfl) ?_
  intro p e s m below meth c hx hb hr hlk hin0 hml hown hts hN hw hG hS ls hl
  have hown : s.vm.findClass RX7 = some m.cls := hown
  have hiX1 : ∀ x ∈ u_ws RX1 TX1 1, x ∈ wsX7_init := by decide +kernel
  have hlnk0 := hts (.methodLink RX7 3 objectInit) (by decide +kernel)
  have hlnk1 := hts (.instanceMethod objectInit) (by decide +kernel)
  have hlnk2 := hts (.code objectInit ⟨#[0xb1]⟩ 1 none) (by decide +kernel)
  have hlnk3 := hts (.fieldLink RX7 9 "LentQuill$Person" "value" "I") (by decide +kernel)
  have hl : lh ls 2 [some (.ref q), some (.int (nI v))] := hl
  refine xaload_n hx hb dX7_init_0 hl rfl ?_
  refine W.objInit hx hb hown hlnk0 hlnk1 hlnk2 rfl (by rw [hml]; exact hl.1) rfl dX7_init_1 (Nat.le_of_ble_eq_true rfl) (Nat.le_of_ble_eq_true rfl) ?_
  refine xaload_n hx hb dX7_init_4 hl rfl ?_
  refine xiload_n hx hb dX7_init_5 hl rfl ?_
  refine xputF (C := RX1) (T := TX1) (N := 1) hx hb (ci := 1) (ty := .int) hts hiX1 tyX1 tyX1_ok nmX1 hown hG hw hS (by repeat first | assumption | exact wu_eq _ _ _ | refine wu_ne (by omega) ?_) rfl 0 (by decide) hlnk3 (fun _ h9 => h9) rfl (hin0 rfl) rfl (by decide +kernel) rfl rfl (Nat.le_of_ble_eq_true rfl) dX7_init_6 (fun H locs hzz hw hS => ?_)
  exact xvret hx hb hr hlk hw hS dX7_init_9 (rfl)
set_option maxHeartbeats 4000000 in
set_option maxRecDepth 100000 in
theorem kX7_init_9 (l : Launch) (N0 : Nat) (G : XG) (w : Wd) (q v : Nat) (hq : w q = some (eO 9 [.int 0])) : XM l yX7_init wsX7_init (rmD 1) N0 G [.ref q, .int (nI v)] w vV (fun _ w1 => wu w q (eO 9 [.int (nI v)]) = w1) 0 0 := by
  refine XM.of (cc := cX7_init) (maxL := 2) (ret := none) (by decide) rfl (Nat.le_of_ble_eq_true rfl) ?_
  intro p e s m below meth c hx hb hr hlk hin0 hml hown hts hN hw hG hS ls hl
  have hown : s.vm.findClass RX7 = some m.cls := hown
  have hiX9 : ∀ x ∈ u_ws RX9 TX9 1, x ∈ wsX7_init := by decide +kernel
  have hlnk0 := hts (.methodLink RX7 3 objectInit) (by decide +kernel)
  have hlnk1 := hts (.instanceMethod objectInit) (by decide +kernel)
  have hlnk2 := hts (.code objectInit ⟨#[0xb1]⟩ 1 none) (by decide +kernel)
  have hlnk3 := hts (.fieldLink RX7 9 "LentQuill$Person" "value" "I") (by decide +kernel)
  have hl : lh ls 2 [some (.ref q), some (.int (nI v))] := hl
  refine xaload_n hx hb dX7_init_0 hl rfl ?_
  refine W.objInit hx hb hown hlnk0 hlnk1 hlnk2 rfl (by rw [hml]; exact hl.1) rfl dX7_init_1 (Nat.le_of_ble_eq_true rfl) (Nat.le_of_ble_eq_true rfl) ?_
  refine xaload_n hx hb dX7_init_4 hl rfl ?_
  refine xiload_n hx hb dX7_init_5 hl rfl ?_
  refine xputF (C := RX9) (T := TX9) (N := 1) hx hb (ci := 9) (ty := .int) hts hiX9 tyX9 tyX9_ok nmX9 hown hG hw hS (by repeat first | assumption | exact wu_eq _ _ _ | refine wu_ne (by omega) ?_) rfl 0 (by decide) hlnk3 (fun _ h9 => h9) rfl (hin0 rfl) rfl (by decide +kernel) rfl rfl (Nat.le_of_ble_eq_true rfl) dX7_init_6 (fun H locs hzz hw hS => ?_)
  exact xvret hx hb hr hlk hw hS dX7_init_9 (rfl)
set_option maxHeartbeats 4000000 in
set_option maxRecDepth 100000 in
theorem kX7_init_3 (l : Launch) (N0 : Nat) (G : XG) (w : Wd) (q v : Nat) (hq : w q = some (eO 3 [.int 0])) : XM l yX7_init wsX7_init (rmD 1) N0 G [.ref q, .int (nI v)] w vV (fun _ w1 => wu w q (eO 3 [.int (nI v)]) = w1) 0 0 := by
  refine XM.of (cc := cX7_init) (maxL := 2) (ret := none) (by decide) rfl (Nat.le_of_ble_eq_true rfl) ?_
  intro p e s m below meth c hx hb hr hlk hin0 hml hown hts hN hw hG hS ls hl
  have hown : s.vm.findClass RX7 = some m.cls := hown
  have hiX3 : ∀ x ∈ u_ws RX3 TX3 1, x ∈ wsX7_init := by decide +kernel
  have hlnk0 := hts (.methodLink RX7 3 objectInit) (by decide +kernel)
  have hlnk1 := hts (.instanceMethod objectInit) (by decide +kernel)
  have hlnk2 := hts (.code objectInit ⟨#[0xb1]⟩ 1 none) (by decide +kernel)
  have hlnk3 := hts (.fieldLink RX7 9 "LentQuill$Person" "value" "I") (by decide +kernel)
  have hl : lh ls 2 [some (.ref q), some (.int (nI v))] := hl
  refine xaload_n hx hb dX7_init_0 hl rfl ?_
  refine W.objInit hx hb hown hlnk0 hlnk1 hlnk2 rfl (by rw [hml]; exact hl.1) rfl dX7_init_1 (Nat.le_of_ble_eq_true rfl) (Nat.le_of_ble_eq_true rfl) ?_
  refine xaload_n hx hb dX7_init_4 hl rfl ?_
  refine xiload_n hx hb dX7_init_5 hl rfl ?_
  refine xputF (C := RX3) (T := TX3) (N := 1) hx hb (ci := 3) (ty := .int) hts hiX3 tyX3 tyX3_ok nmX3 hown hG hw hS (by repeat first | assumption | exact wu_eq _ _ _ | refine wu_ne (by omega) ?_) rfl 0 (by decide) hlnk3 (fun _ h9 => h9) rfl (hin0 rfl) rfl (by decide +kernel) rfl rfl (Nat.le_of_ble_eq_true rfl) dX7_init_6 (fun H locs hzz hw hS => ?_)
  exact xvret hx hb hr hlk hw hS dX7_init_9 (rfl)
set_option maxHeartbeats 4000000 in
set_option maxRecDepth 100000 in
theorem kX7_init_0 (l : Launch) (N0 : Nat) (G : XG) (w : Wd) (q v : Nat) (hq : w q = some (eO 0 [.int 0])) : XM l yX7_init wsX7_init (rmD 1) N0 G [.ref q, .int (nI v)] w vV (fun _ w1 => wu w q (eO 0 [.int (nI v)]) = w1) 0 0 := by
  refine XM.of (cc := cX7_init) (maxL := 2) (ret := none) (by decide) rfl (Nat.le_of_ble_eq_true rfl) ?_
  intro p e s m below meth c hx hb hr hlk hin0 hml hown hts hN hw hG hS ls hl
  have hown : s.vm.findClass RX7 = some m.cls := hown
  have hiX0 : ∀ x ∈ u_ws RX0 TX0 1, x ∈ wsX7_init := by decide +kernel
  have hlnk0 := hts (.methodLink RX7 3 objectInit) (by decide +kernel)
  have hlnk1 := hts (.instanceMethod objectInit) (by decide +kernel)
  have hlnk2 := hts (.code objectInit ⟨#[0xb1]⟩ 1 none) (by decide +kernel)
  have hlnk3 := hts (.fieldLink RX7 9 "LentQuill$Person" "value" "I") (by decide +kernel)
  have hl : lh ls 2 [some (.ref q), some (.int (nI v))] := hl
  refine xaload_n hx hb dX7_init_0 hl rfl ?_
  refine W.objInit hx hb hown hlnk0 hlnk1 hlnk2 rfl (by rw [hml]; exact hl.1) rfl dX7_init_1 (Nat.le_of_ble_eq_true rfl) (Nat.le_of_ble_eq_true rfl) ?_
  refine xaload_n hx hb dX7_init_4 hl rfl ?_
  refine xiload_n hx hb dX7_init_5 hl rfl ?_
  refine xputF (C := RX0) (T := TX0) (N := 1) hx hb (ci := 0) (ty := .int) hts hiX0 tyX0 tyX0_ok nmX0 hown hG hw hS (by repeat first | assumption | exact wu_eq _ _ _ | refine wu_ne (by omega) ?_) rfl 0 (by decide) hlnk3 (fun _ h9 => h9) rfl (hin0 rfl) rfl (by decide +kernel) rfl rfl (Nat.le_of_ble_eq_true rfl) dX7_init_6 (fun H locs hzz hw hS => ?_)
  exact xvret hx hb hr hlk hw hS dX7_init_9 (rfl)
set_option maxHeartbeats 4000000 in
set_option maxRecDepth 100000 in
theorem kX1_init_1 (l : Launch) (N0 : Nat) (G : XG) (w : Wd) (q v : Nat) (hq : w q = some (eO 1 [.int 0])) : XM l yX1_init wsX1_init (rmD 2) N0 G [.ref q, .int (nI v)] w vV (fun _ w1 => wu w q (eO 1 [.int (nI v)]) = w1) 0 0 := by
  refine XM.of (cc := cX1_init) (maxL := 2) (ret := none) (by decide) rfl (Nat.le_of_ble_eq_true rfl) ?_
  intro p e s m below meth c hx hb hr hlk hin0 hml hown hts hN hw hG hS ls hl
  have hown : s.vm.findClass RX1 = some m.cls := hown
  have hlnk0 := hts (.initialized RX7) (by decide +kernel)
  have hlnk1 := hts (.methodLink RX1 3 yX7_init) (by decide +kernel)
  have hlnk2 := hts (.instanceMethod yX7_init) (by decide +kernel)
  have hl : lh ls 2 [some (.ref q), some (.int (nI v))] := hl
  refine xaload_n hx hb dX1_init_0 hl rfl ?_
  refine xiload_n hx hb dX1_init_1 hl rfl ?_
  refine xIv ⟨hx, hb, hml, hown, hts⟩ (kX7_init_1 l N0 G _ q v hq) (cwI 1 hts gX1_init_X7_init rfl rfl rfl hlnk0 hlnk1 hlnk2 rfl (by decide +kernel) ⟨Nat.le_of_ble_eq_true rfl, Nat.le_of_ble_eq_true rfl⟩) hG hN hw hS rfl hl.1 rfl (Nat.le_of_ble_eq_true rfl) dX1_init_2 ⟨Nat.le_of_ble_eq_true rfl, Nat.le_of_ble_eq_true rfl⟩ (fun r2 w2 H locs hp2 hw hS => ?_)
  obtain rfl := hp2
  exact xvret hx hb hr hlk hw hS dX1_init_5 (rfl)
set_option maxHeartbeats 4000000 in
set_option maxRecDepth 100000 in
theorem kX1_init_0 (l : Launch) (N0 : Nat) (G : XG) (w : Wd) (q v : Nat) (hq : w q = some (eO 0 [.int 0])) : XM l yX1_init wsX1_init (rmD 2) N0 G [.ref q, .int (nI v)] w vV (fun _ w1 => wu w q (eO 0 [.int (nI v)]) = w1) 0 0 := by
  refine XM.of (cc := cX1_init) (maxL := 2) (ret := none) (by decide) rfl (Nat.le_of_ble_eq_true rfl) ?_
  intro p e s m below meth c hx hb hr hlk hin0 hml hown hts hN hw hG hS ls hl
  have hown : s.vm.findClass RX1 = some m.cls := hown
  have hlnk0 := hts (.initialized RX7) (by decide +kernel)
  have hlnk1 := hts (.methodLink RX1 3 yX7_init) (by decide +kernel)
  have hlnk2 := hts (.instanceMethod yX7_init) (by decide +kernel)
  have hl : lh ls 2 [some (.ref q), some (.int (nI v))] := hl
  refine xaload_n hx hb dX1_init_0 hl rfl ?_
  refine xiload_n hx hb dX1_init_1 hl rfl ?_
  refine xIv ⟨hx, hb, hml, hown, hts⟩ (kX7_init_0 l N0 G _ q v hq) (cwI 1 hts gX1_init_X7_init rfl rfl rfl hlnk0 hlnk1 hlnk2 rfl (by decide +kernel) ⟨Nat.le_of_ble_eq_true rfl, Nat.le_of_ble_eq_true rfl⟩) hG hN hw hS rfl hl.1 rfl (Nat.le_of_ble_eq_true rfl) dX1_init_2 ⟨Nat.le_of_ble_eq_true rfl, Nat.le_of_ble_eq_true rfl⟩ (fun r2 w2 H locs hp2 hw hS => ?_)
  obtain rfl := hp2
  exact xvret hx hb hr hlk hw hS dX1_init_5 (rfl)
set_option maxHeartbeats 4000000 in
set_option maxRecDepth 100000 in
theorem kX0_init (l : Launch) (N0 : Nat) (G : XG) (w : Wd) (q v : Nat) (hq : w q = some (eO 0 [.int 0])) : XM l yX0_init wsX0_init (rmD 3) N0 G [.ref q, .int (nI v)] w vV (fun _ w1 => wu w q (eO 0 [.int (nI v)]) = w1) 0 0 := by
  refine XM.of (cc := cX0_init) (maxL := 2) (ret := none) (by decide) rfl (Nat.le_of_ble_eq_true rfl) ?_
  intro p e s m below meth c hx hb hr hlk hin0 hml hown hts hN hw hG hS ls hl
  have hown : s.vm.findClass RX0 = some m.cls := hown
  have hlnk0 := hts (.initialized RX1) (by decide +kernel)
  have hlnk1 := hts (.methodLink RX0 3 yX1_init) (by decide +kernel)
  have hlnk2 := hts (.instanceMethod yX1_init) (by decide +kernel)
  have hl : lh ls 2 [some (.ref q), some (.int (nI v))] := hl
  refine xaload_n hx hb dX0_init_0 hl rfl ?_
  refine xiload_n hx hb dX0_init_1 hl rfl ?_
  refine xIv ⟨hx, hb, hml, hown, hts⟩ (kX1_init_0 l N0 G _ q v hq) (cwI 1 hts gX0_init_X1_init rfl rfl rfl hlnk0 hlnk1 hlnk2 rfl (by decide +kernel) ⟨Nat.le_of_ble_eq_true rfl, Nat.le_of_ble_eq_true rfl⟩) hG hN hw hS rfl hl.1 rfl (Nat.le_of_ble_eq_true rfl) dX0_init_2 ⟨Nat.le_of_ble_eq_true rfl, Nat.le_of_ble_eq_true rfl⟩ (fun r2 w2 H locs hp2 hw hS => ?_)
  obtain rfl := hp2
  exact xvret hx hb hr hlk hw hS dX0_init_5 (rfl)
set_option maxHeartbeats 4000000 in
set_option maxRecDepth 100000 in
theorem kX9_init (l : Launch) (N0 : Nat) (G : XG) (w : Wd) (q v : Nat) (hq : w q = some (eO 9 [.int 0])) : XM l yX9_init wsX9_init (rmD 2) N0 G [.ref q, .int (nI v)] w vV (fun _ w1 => wu w q (eO 9 [.int (nI v)]) = w1) 0 0 := by
  refine XM.of (cc := cX9_init) (maxL := 2) (ret := none) (by decide) rfl (Nat.le_of_ble_eq_true rfl) ?_
  intro p e s m below meth c hx hb hr hlk hin0 hml hown hts hN hw hG hS ls hl
  have hown : s.vm.findClass RX9 = some m.cls := hown
  have hlnk0 := hts (.initialized RX7) (by decide +kernel)
  have hlnk1 := hts (.methodLink RX9 3 yX7_init) (by decide +kernel)
  have hlnk2 := hts (.instanceMethod yX7_init) (by decide +kernel)
  have hl : lh ls 2 [some (.ref q), some (.int (nI v))] := hl
  refine xaload_n hx hb dX9_init_0 hl rfl ?_
  refine xiload_n hx hb dX9_init_1 hl rfl ?_
  refine xIv ⟨hx, hb, hml, hown, hts⟩ (kX7_init_9 l N0 G _ q v hq) (cwI 1 hts gX9_init_X7_init rfl rfl rfl hlnk0 hlnk1 hlnk2 rfl (by decide +kernel) ⟨Nat.le_of_ble_eq_true rfl, Nat.le_of_ble_eq_true rfl⟩) hG hN hw hS rfl hl.1 rfl (Nat.le_of_ble_eq_true rfl) dX9_init_2 ⟨Nat.le_of_ble_eq_true rfl, Nat.le_of_ble_eq_true rfl⟩ (fun r2 w2 H locs hp2 hw hS => ?_)
  obtain rfl := hp2
  exact xvret hx hb hr hlk hw hS dX9_init_5 (rfl)
set_option maxHeartbeats 4000000 in
set_option maxRecDepth 100000 in
theorem kX3_init (l : Launch) (N0 : Nat) (G : XG) (w : Wd) (q v : Nat) (hq : w q = some (eO 3 [.int 0])) : XM l yX3_init wsX3_init (rmD 2) N0 G [.ref q, .int (nI v)] w vV (fun _ w1 => wu w q (eO 3 [.int (nI v)]) = w1) 0 0 := by
  refine XM.of (cc := cX3_init) (maxL := 2) (ret := none) (by decide) rfl (Nat.le_of_ble_eq_true rfl) ?_
  intro p e s m below meth c hx hb hr hlk hin0 hml hown hts hN hw hG hS ls hl
  have hown : s.vm.findClass RX3 = some m.cls := hown
  have hlnk0 := hts (.initialized RX7) (by decide +kernel)
  have hlnk1 := hts (.methodLink RX3 3 yX7_init) (by decide +kernel)
  have hlnk2 := hts (.instanceMethod yX7_init) (by decide +kernel)
  have hl : lh ls 2 [some (.ref q), some (.int (nI v))] := hl
  refine xaload_n hx hb dX3_init_0 hl rfl ?_
  refine xiload_n hx hb dX3_init_1 hl rfl ?_
  refine xIv ⟨hx, hb, hml, hown, hts⟩ (kX7_init_3 l N0 G _ q v hq) (cwI 1 hts gX3_init_X7_init rfl rfl rfl hlnk0 hlnk1 hlnk2 rfl (by decide +kernel) ⟨Nat.le_of_ble_eq_true rfl, Nat.le_of_ble_eq_true rfl⟩) hG hN hw hS rfl hl.1 rfl (Nat.le_of_ble_eq_true rfl) dX3_init_2 ⟨Nat.le_of_ble_eq_true rfl, Nat.le_of_ble_eq_true rfl⟩ (fun r2 w2 H locs hp2 hw hS => ?_)
  obtain rfl := hp2
  exact xvret hx hb hr hlk hw hS dX3_init_5 (rfl)
set_option maxHeartbeats 4000000 in
set_option maxRecDepth 100000 in
theorem kX10_newPerson (l : Launch) (N0 : Nat) (G : XG) (w : Wd) (Z : Nat) (eZ : va_E) (hZ0 : 0 < Z) (hZ : w (Z - 1) = some eZ) (c0 v k : Nat) (hc : c0 < 128) (hk : kN c0 = some k) : XM l yX10_newPerson wsX10_newPerson (rmA 5 1 1) N0 G [.int (nI c0), .int (nI v)] w vR (fun r w1 => ∃ q, some q = r ∧ Z ≤ q ∧ w q = none ∧ w1 q = some (eO (pci k) [.int (nI v)]) ∧ ∀ a, a ≠ q → w1 a = w a) 1 1 := by
  refine XM.of (cc := cX10_newPerson) (maxL := 2) (ret := (some (.object "LentQuill$Person"))) (by decide) rfl (Nat.le_of_ble_eq_true rfl) ?_
  intro p e s m below meth c hx hb hr hlk hin0 hml hown hts hN hw hG hS ls hl
  have hown : s.vm.findClass RX10 = some m.cls := hown
  have hiX7 : ∀ x ∈ u_ws RX7 TX7 1, x ∈ wsX10_newPerson := by decide +kernel
  have hiX1 : ∀ x ∈ u_ws RX1 TX1 1, x ∈ wsX10_newPerson := by decide +kernel
  have hiX9 : ∀ x ∈ u_ws RX9 TX9 1, x ∈ wsX10_newPerson := by decide +kernel
  have hiX3 : ∀ x ∈ u_ws RX3 TX3 1, x ∈ wsX10_newPerson := by decide +kernel
  have hiX0 : ∀ x ∈ u_ws RX0 TX0 1, x ∈ wsX10_newPerson := by decide +kernel
  have hlnk0 := hts (.classLink RX10 9 RX7) (by decide +kernel)
  have hlnk1 := hts (.instantiable RX7 1) (by decide +kernel)
  have hlnk2 := hts (.initialized RX7) (by decide +kernel)
  have hlnk3 := hts (.methodLink RX10 64 yX7_init) (by decide +kernel)
  have hlnk4 := hts (.instanceMethod yX7_init) (by decide +kernel)
  have hlnk5 := hts (.classLink RX10 50 RX1) (by decide +kernel)
  have hlnk6 := hts (.instantiable RX1 1) (by decide +kernel)
  have hlnk7 := hts (.initialized RX1) (by decide +kernel)
  have hlnk8 := hts (.methodLink RX10 52 yX1_init) (by decide +kernel)
  have hlnk9 := hts (.instanceMethod yX1_init) (by decide +kernel)
  have hlnk10 := hts (.classLink RX10 55 RX9) (by decide +kernel)
  have hlnk11 := hts (.instantiable RX9 1) (by decide +kernel)
  have hlnk12 := hts (.initialized RX9) (by decide +kernel)
  have hlnk13 := hts (.methodLink RX10 57 yX9_init) (by decide +kernel)
  have hlnk14 := hts (.instanceMethod yX9_init) (by decide +kernel)
  have hlnk15 := hts (.classLink RX10 58 RX3) (by decide +kernel)
  have hlnk16 := hts (.instantiable RX3 1) (by decide +kernel)
  have hlnk17 := hts (.initialized RX3) (by decide +kernel)
  have hlnk18 := hts (.methodLink RX10 60 yX3_init) (by decide +kernel)
  have hlnk19 := hts (.instanceMethod yX3_init) (by decide +kernel)
  have hlnk20 := hts (.classLink RX10 61 RX0) (by decide +kernel)
  have hlnk21 := hts (.instantiable RX0 1) (by decide +kernel)
  have hlnk22 := hts (.initialized RX0) (by decide +kernel)
  have hlnk23 := hts (.methodLink RX10 63 yX0_init) (by decide +kernel)
  have hlnk24 := hts (.instanceMethod yX0_init) (by decide +kernel)
  have hl : lh ls 2 [some (.int (nI c0)), some (.int (nI v))] := hl
  have hk4 := kN_lt hk
  refine va_ldcS hx hb hown hN.2.1.2 dX10_newPerson_0 ?_
  refine xiload_n hx hb dX10_newPerson_2 hl rfl ?_
  refine lv_i2c (v := nI c0) hx hb dX10_newPerson_3 (nI_i2c (by omega)) ?_
  refine xVsi ⟨hx, hb, hml, hown, hts⟩ (kJ0_indexOf_0f7a4 l N0 G w c0 hc) (cwV 1 hts gX10_newPerson_J0_indexOf_0f7a4 rfl rfl rfl (by decide +kernel) ⟨Nat.le_of_ble_eq_true rfl, Nat.le_of_ble_eq_true rfl⟩) hG hN hw hS rfl hl.1 rfl (Nat.le_of_ble_eq_true rfl) dX10_newPerson_4 ⟨Nat.le_of_ble_eq_true rfl, Nat.le_of_ble_eq_true rfl⟩ (fun r4 w4 H locs hp4 hw hS => ?_)
  obtain ⟨rfl, rfl⟩ := hp4
  rcases (show k = 0 ∨ k = 1 ∨ k = 2 ∨ k = 3 ∨ k = 4 by omega) with rfl | rfl | rfl | rfl | rfl
  · skip
    refine xtop (y := nI 0) (by rw [hk]; rfl) ?_
    refine lv_tableOut (tgt := 72) hx hb dX10_newPerson_7 (by decide) (by decide) ?_
    obtain ⟨z, hz⟩ : ∃ z, H.size = z := ⟨_, rfl⟩
    have hzZ := hw.lt hZ
    have hzn := hw.fresh (a := z) (by omega)
    refine xnew (C := RX7) (T := TX7) (N := 1) (fs := [.int 0]) hx hb (ci := 7) hts hiX7 tyX7 tyX7_ok hown hlnk0 hlnk1 hlnk2 hG hN hw hS rfl (fun j hj => by rcases (show j = 0 by omega) with rfl <;> rfl) (Nat.le_of_ble_eq_true rfl) (Nat.le_of_ble_eq_true rfl) hz dX10_newPerson_72 (fun H hz hw hS => ?_)
    refine lv_dup hx hb dX10_newPerson_75 rfl ?_
    refine xiload_n hx hb dX10_newPerson_76 hl rfl ?_
    refine xIv ⟨hx, hb, hml, hown, hts⟩ (kX7_init_7 l N0 G _ z v (wu_eq _ _ _)) (cwI 1 hts gX10_newPerson_X7_init rfl rfl rfl hlnk2 hlnk3 hlnk4 rfl (by decide +kernel) ⟨Nat.le_of_ble_eq_true rfl, Nat.le_of_ble_eq_true rfl⟩) hG hN hw hS rfl hl.1 rfl (Nat.le_of_ble_eq_true rfl) dX10_newPerson_77 ⟨Nat.le_of_ble_eq_true rfl, Nat.le_of_ble_eq_true rfl⟩ (fun r77 w77 H locs hp77 hw hS => ?_)
    obtain rfl := hp77
    first | exact xaretS hx hb hr hlk hw hS dX10_newPerson_80 ⟨z, rfl, by omega, hzn, wu_eq _ _ _, fun a ha => by rw [wu_nq ha, wu_nq ha]⟩ | exact xaretN hx hb hr hlk hw hS dX10_newPerson_80 ⟨z, rfl, by omega, hzn, wu_eq _ _ _, fun a ha => by rw [wu_nq ha, wu_nq ha]⟩ | exact xaret hx hb hr hlk hw hS dX10_newPerson_80 ⟨z, rfl, by omega, hzn, wu_eq _ _ _, fun a ha => by rw [wu_nq ha, wu_nq ha]⟩
  · skip
    refine xtop (y := nI 1) (by rw [hk]; rfl) ?_
    refine lv_tableIn (off := 29) (tgt := 36) hx hb dX10_newPerson_7 (by decide) (by decide) (by decide) (by decide) ?_
    obtain ⟨z, hz⟩ : ∃ z, H.size = z := ⟨_, rfl⟩
    have hzZ := hw.lt hZ
    have hzn := hw.fresh (a := z) (by omega)
    refine xnew (C := RX1) (T := TX1) (N := 1) (fs := [.int 0]) hx hb (ci := 1) hts hiX1 tyX1 tyX1_ok hown hlnk5 hlnk6 hlnk7 hG hN hw hS rfl (fun j hj => by rcases (show j = 0 by omega) with rfl <;> rfl) (Nat.le_of_ble_eq_true rfl) (Nat.le_of_ble_eq_true rfl) hz dX10_newPerson_36 (fun H hz hw hS => ?_)
    refine lv_dup hx hb dX10_newPerson_39 rfl ?_
    refine xiload_n hx hb dX10_newPerson_40 hl rfl ?_
    refine xIv ⟨hx, hb, hml, hown, hts⟩ (kX1_init_1 l N0 G _ z v (wu_eq _ _ _)) (cwI 1 hts gX10_newPerson_X1_init rfl rfl rfl hlnk7 hlnk8 hlnk9 rfl (by decide +kernel) ⟨Nat.le_of_ble_eq_true rfl, Nat.le_of_ble_eq_true rfl⟩) hG hN hw hS rfl hl.1 rfl (Nat.le_of_ble_eq_true rfl) dX10_newPerson_41 ⟨Nat.le_of_ble_eq_true rfl, Nat.le_of_ble_eq_true rfl⟩ (fun r41 w41 H locs hp41 hw hS => ?_)
    obtain rfl := hp41
    first | exact xaretS hx hb hr hlk hw hS dX10_newPerson_44 ⟨z, rfl, by omega, hzn, wu_eq _ _ _, fun a ha => by rw [wu_nq ha, wu_nq ha]⟩ | exact xaretN hx hb hr hlk hw hS dX10_newPerson_44 ⟨z, rfl, by omega, hzn, wu_eq _ _ _, fun a ha => by rw [wu_nq ha, wu_nq ha]⟩ | exact xaret hx hb hr hlk hw hS dX10_newPerson_44 ⟨z, rfl, by omega, hzn, wu_eq _ _ _, fun a ha => by rw [wu_nq ha, wu_nq ha]⟩
  · skip
    refine xtop (y := nI 2) (by rw [hk]; rfl) ?_
    refine lv_tableIn (off := 38) (tgt := 45) hx hb dX10_newPerson_7 (by decide) (by decide) (by decide) (by decide) ?_
    obtain ⟨z, hz⟩ : ∃ z, H.size = z := ⟨_, rfl⟩
    have hzZ := hw.lt hZ
    have hzn := hw.fresh (a := z) (by omega)
    refine xnew (C := RX9) (T := TX9) (N := 1) (fs := [.int 0]) hx hb (ci := 9) hts hiX9 tyX9 tyX9_ok hown hlnk10 hlnk11 hlnk12 hG hN hw hS rfl (fun j hj => by rcases (show j = 0 by omega) with rfl <;> rfl) (Nat.le_of_ble_eq_true rfl) (Nat.le_of_ble_eq_true rfl) hz dX10_newPerson_45 (fun H hz hw hS => ?_)
    refine lv_dup hx hb dX10_newPerson_48 rfl ?_
    refine xiload_n hx hb dX10_newPerson_49 hl rfl ?_
    refine xIv ⟨hx, hb, hml, hown, hts⟩ (kX9_init l N0 G _ z v (wu_eq _ _ _)) (cwI 1 hts gX10_newPerson_X9_init rfl rfl rfl hlnk12 hlnk13 hlnk14 rfl (by decide +kernel) ⟨Nat.le_of_ble_eq_true rfl, Nat.le_of_ble_eq_true rfl⟩) hG hN hw hS rfl hl.1 rfl (Nat.le_of_ble_eq_true rfl) dX10_newPerson_50 ⟨Nat.le_of_ble_eq_true rfl, Nat.le_of_ble_eq_true rfl⟩ (fun r50 w50 H locs hp50 hw hS => ?_)
    obtain rfl := hp50
    first | exact xaretS hx hb hr hlk hw hS dX10_newPerson_53 ⟨z, rfl, by omega, hzn, wu_eq _ _ _, fun a ha => by rw [wu_nq ha, wu_nq ha]⟩ | exact xaretN hx hb hr hlk hw hS dX10_newPerson_53 ⟨z, rfl, by omega, hzn, wu_eq _ _ _, fun a ha => by rw [wu_nq ha, wu_nq ha]⟩ | exact xaret hx hb hr hlk hw hS dX10_newPerson_53 ⟨z, rfl, by omega, hzn, wu_eq _ _ _, fun a ha => by rw [wu_nq ha, wu_nq ha]⟩
  · skip
    refine xtop (y := nI 3) (by rw [hk]; rfl) ?_
    refine lv_tableIn (off := 47) (tgt := 54) hx hb dX10_newPerson_7 (by decide) (by decide) (by decide) (by decide) ?_
    obtain ⟨z, hz⟩ : ∃ z, H.size = z := ⟨_, rfl⟩
    have hzZ := hw.lt hZ
    have hzn := hw.fresh (a := z) (by omega)
    refine xnew (C := RX3) (T := TX3) (N := 1) (fs := [.int 0]) hx hb (ci := 3) hts hiX3 tyX3 tyX3_ok hown hlnk15 hlnk16 hlnk17 hG hN hw hS rfl (fun j hj => by rcases (show j = 0 by omega) with rfl <;> rfl) (Nat.le_of_ble_eq_true rfl) (Nat.le_of_ble_eq_true rfl) hz dX10_newPerson_54 (fun H hz hw hS => ?_)
    refine lv_dup hx hb dX10_newPerson_57 rfl ?_
    refine xiload_n hx hb dX10_newPerson_58 hl rfl ?_
    refine xIv ⟨hx, hb, hml, hown, hts⟩ (kX3_init l N0 G _ z v (wu_eq _ _ _)) (cwI 1 hts gX10_newPerson_X3_init rfl rfl rfl hlnk17 hlnk18 hlnk19 rfl (by decide +kernel) ⟨Nat.le_of_ble_eq_true rfl, Nat.le_of_ble_eq_true rfl⟩) hG hN hw hS rfl hl.1 rfl (Nat.le_of_ble_eq_true rfl) dX10_newPerson_59 ⟨Nat.le_of_ble_eq_true rfl, Nat.le_of_ble_eq_true rfl⟩ (fun r59 w59 H locs hp59 hw hS => ?_)
    obtain rfl := hp59
    first | exact xaretS hx hb hr hlk hw hS dX10_newPerson_62 ⟨z, rfl, by omega, hzn, wu_eq _ _ _, fun a ha => by rw [wu_nq ha, wu_nq ha]⟩ | exact xaretN hx hb hr hlk hw hS dX10_newPerson_62 ⟨z, rfl, by omega, hzn, wu_eq _ _ _, fun a ha => by rw [wu_nq ha, wu_nq ha]⟩ | exact xaret hx hb hr hlk hw hS dX10_newPerson_62 ⟨z, rfl, by omega, hzn, wu_eq _ _ _, fun a ha => by rw [wu_nq ha, wu_nq ha]⟩
  · skip
    refine xtop (y := nI 4) (by rw [hk]; rfl) ?_
    refine lv_tableIn (off := 56) (tgt := 63) hx hb dX10_newPerson_7 (by decide) (by decide) (by decide) (by decide) ?_
    obtain ⟨z, hz⟩ : ∃ z, H.size = z := ⟨_, rfl⟩
    have hzZ := hw.lt hZ
    have hzn := hw.fresh (a := z) (by omega)
    refine xnew (C := RX0) (T := TX0) (N := 1) (fs := [.int 0]) hx hb (ci := 0) hts hiX0 tyX0 tyX0_ok hown hlnk20 hlnk21 hlnk22 hG hN hw hS rfl (fun j hj => by rcases (show j = 0 by omega) with rfl <;> rfl) (Nat.le_of_ble_eq_true rfl) (Nat.le_of_ble_eq_true rfl) hz dX10_newPerson_63 (fun H hz hw hS => ?_)
    refine lv_dup hx hb dX10_newPerson_66 rfl ?_
    refine xiload_n hx hb dX10_newPerson_67 hl rfl ?_
    refine xIv ⟨hx, hb, hml, hown, hts⟩ (kX0_init l N0 G _ z v (wu_eq _ _ _)) (cwI 1 hts gX10_newPerson_X0_init rfl rfl rfl hlnk22 hlnk23 hlnk24 rfl (by decide +kernel) ⟨Nat.le_of_ble_eq_true rfl, Nat.le_of_ble_eq_true rfl⟩) hG hN hw hS rfl hl.1 rfl (Nat.le_of_ble_eq_true rfl) dX10_newPerson_68 ⟨Nat.le_of_ble_eq_true rfl, Nat.le_of_ble_eq_true rfl⟩ (fun r68 w68 H locs hp68 hw hS => ?_)
    obtain rfl := hp68
    first | exact xaretS hx hb hr hlk hw hS dX10_newPerson_71 ⟨z, rfl, by omega, hzn, wu_eq _ _ _, fun a ha => by rw [wu_nq ha, wu_nq ha]⟩ | exact xaretN hx hb hr hlk hw hS dX10_newPerson_71 ⟨z, rfl, by omega, hzn, wu_eq _ _ _, fun a ha => by rw [wu_nq ha, wu_nq ha]⟩ | exact xaret hx hb hr hlk hw hS dX10_newPerson_71 ⟨z, rfl, by omega, hzn, wu_eq _ _ _, fun a ha => by rw [wu_nq ha, wu_nq ha]⟩
set_option maxHeartbeats 4000000 in
set_option maxRecDepth 100000 in
theorem kX10_readFrom (l : Launch) (N0 : Nat) (G : XG) (w : Wd) (t0 Z : Nat) (P : PK) (lim : Nat) (ht : RTown G w t0 Z P lim) (p0 : Nat) (pg : List Nat) (hP : RPage G w p0 pg) (hT : isT pg = true) (eZ : va_E) (hZ : w (Z - 1) = some eZ) (hsep : (p0 + 2 ≤ t0 ∨ t0 + 2 ≤ p0) ∧ t0 + 3 ≤ Z ∧ p0 + 2 ≤ Z) : XM l yX10_readFrom wsX10_readFrom (rmA 6 5 5) N0 G [.ref t0, .ref p0] w vV (fun _ w1 => RTown G w1 t0 Z (tP pg) (tL pg) ∧ OutZ w w1 t0 (t0 + 2) Z) 5 5 := by
  refine XM.of (cc := cX10_readFrom) (maxL := 3) (ret := none) (by decide) rfl (Nat.le_of_ble_eq_true rfl) ?_
  intro p e s m below meth c hx hb hr hlk hin0 hml hown hts hN hw hG hS ls hl
  have hown : s.vm.findClass RX10 = some m.cls := hown
  have hiX10 : ∀ x ∈ u_ws RX10 TX10 3, x ∈ wsX10_readFrom := by decide +kernel
  have hlnk0 := hts (.fieldLink RX10 11 "LentQuill$Town" "people" "[LLentQuill$Person;") (by decide +kernel)
  have hlnk1 := hts (.methodLink RX10 29 Lib.Math.min.name) (by decide +kernel)
  have hlnk2 := hts (.static Lib.Math.min.name) (by decide +kernel)
  have hlnk3 := hts (.initialized "java/lang/Math") (by decide +kernel)
  have hlnk4 := hts (.code Lib.Math.min.name Lib.Math.min.code 2 (some .int)) (by decide +kernel)
  have hlnk5 := hts (.fieldLink RX10 17 "LentQuill$Town" "size" "I") (by decide +kernel)
  have hlnk6 := hts (.fieldLink RX10 21 "LentQuill$Town" "limit" "I") (by decide +kernel)
  have hl : lh ls 3 [some (.ref t0), some (.ref p0), none] := hl
  obtain ⟨g, ht0, ht1, -, -, -⟩ := id ht
  have h18 := hP.len
  obtain ⟨hm3, hn2, hn5, hpp, hl49, hl53⟩ := isT_spec hT h18
  have hpc := hP.cell
  refine xaload_n hx hb dX10_readFrom_0 hl rfl ?_
  refine xaload_n hx hb dX10_readFrom_1 hl rfl ?_
  refine xVi ⟨hx, hb, hml, hown, hts⟩ (kX5_size l N0 G _ _ pg hP) (cwV 0 hts gX10_readFrom_X5_size rfl rfl rfl (by decide +kernel) ⟨Nat.le_of_ble_eq_true rfl, Nat.le_of_ble_eq_true rfl⟩) hG hN hw hS (ci := 5) (by repeat first | assumption | exact wu_eq _ _ _ | refine wu_ne (by omega) ?_) rfl rfl hl.1 rfl (Nat.le_of_ble_eq_true rfl) dX10_readFrom_2 ⟨by simp only [rmA]; omega, by simp only [rmA]; omega⟩ (fun r2 w2 H locs hp2 hw hS => ?_)
  obtain ⟨rfl, rfl⟩ := hp2
  refine lv_iconst (v := nI 3) hx hb dX10_readFrom_5 (by decide) ?_
  refine xdiv hx hb dX10_readFrom_6 (by omega) (by omega) (by omega) ?_
  refine xaload_n hx hb dX10_readFrom_7 hl rfl ?_
  refine xget (C := RX10) (T := TX10) (N := 3) hx hb (ci := 10) hts hiX10 hown hG hw (by repeat first | assumption | exact wu_eq _ _ _ | refine wu_ne (by omega) ?_) rfl 0 (by decide) hlnk0 (fun _ h9 => h9) rfl dX10_readFrom_8 ?_
  first | refine xalenI hx hb hG hw (by repeat first | assumption | exact wu_eq _ _ _ | refine wu_ne (by omega) ?_) dX10_readFrom_11 ?_ | refine xalenP hx hb hG hw (by repeat first | assumption | exact wu_eq _ _ _ | refine wu_ne (by omega) ?_) dX10_readFrom_11 ?_ | refine xalenN hx hb hG hw (by repeat first | assumption | exact wu_eq _ _ _ | refine wu_ne (by omega) ?_) dX10_readFrom_11 ?_
  refine va_mmin hx hb (hml.trans hl.1.symm) hown hlnk1 hlnk2 hlnk3 hlnk4 (Nat.le_of_ble_eq_true rfl) (Nat.le_of_ble_eq_true rfl) (Nat.le_of_ble_eq_true rfl) (Nat.le_of_ble_eq_true rfl) dX10_readFrom_12 ?_
  refine xtop (nmin (by omega) (by omega)) ?_
  refine xtop (show nI (min (pg.length / 3) 5) = nI (pg.length / 3) by rw [Nat.min_eq_left hn5]) ?_
  refine xput (C := RX10) (T := TX10) (N := 3) hx hb (ci := 10) (ty := .int) hts hiX10 tyX10 tyX10_ok nmX10 hown hG hw hS (by repeat first | assumption | exact wu_eq _ _ _ | refine wu_ne (by omega) ?_) rfl 1 (by decide) hlnk5 (fun _ h9 => h9) rfl (by decide +kernel) rfl rfl (Nat.le_of_ble_eq_true rfl) dX10_readFrom_15 (fun H locs hzz hw hS => ?_)
  refine lv_iconst (v := nI 0) hx hb dX10_readFrom_18 (by decide) ?_
  refine xistore_n hx hb dX10_readFrom_19 hl (by decide) rfl (fun ls hl => ?_)
  have loop20 : ∀ (nf : Nat) (i : Nat) (w1 : Wd) (g1 : Nat → Option Nat) (H : Heap) (locs : List Loc) (ls : Array Slot), pg.length / 3 - i < nf → (i ≤ pg.length / 3) → (w1 t0 = some (eO 10 [.ref (t0 + 1), .int (nI (pg.length / 3)), .int (nI lim)])) → (w1 (t0 + 1) = some (eP G 5 g1)) → (∀ j, j < i → ∃ q, g1 j = some q ∧ Z ≤ q ∧ w1 q = some (eO (pci (kd (tP pg) j)) [.int (nI (wo (tP pg) j))])) → (OutZ w w1 t0 (t0 + 2) Z) → PW N0 G w1 H → va_S (fun q => N0 ≤ q) s.heap H locs → lh ls 3 [some (.ref t0), some (.ref p0), some (.int (nI i))] → W p l e (rmA 6 5 5) s m ([.ref t0, .ref p0] : List Value).toArray below meth c H locs i i (MQ below (XQ N0 G vV (fun _ w1 => RTown G w1 t0 Z (tP pg) (tL pg) ∧ OutZ w w1 t0 (t0 + 2) Z)) ([.ref t0, .ref p0] : List Value).toArray s 5 5 (fun q => N0 ≤ q)) (F0 m 20 ls []) := by
    intro nf
    induction nf with
    | zero => intros; omega
    | succ nf ih20 =>
      intro i w1 g1 H locs ls hnf hi e0 e1 hg1 hO1 hw hS hl
      have hP1 := hP.outz hO1 (by omega) (by omega)
      have hZ1 : w1 (Z - 1) = some eZ := (hO1 _ (by omega) (by omega)).trans hZ
      have hpc1 := hP1.cell
      have hqq := pgc_126 hP (3 * i)
      refine xiload_n hx hb dX10_readFrom_20 hl rfl ?_
      refine xaload_n hx hb dX10_readFrom_21 hl rfl ?_
      refine xget (C := RX10) (T := TX10) (N := 3) hx hb (ci := 10) hts hiX10 hown hG hw (by repeat first | assumption | exact wu_eq _ _ _ | refine wu_ne (by omega) ?_) rfl 1 (by decide) hlnk5 (fun _ h9 => h9) rfl dX10_readFrom_22 ?_
      first | refine xcmp_ge (tgt := 62) hx hb dX10_readFrom_25 (by decide) (by omega) (by omega) (fun c25 => ?_) (fun c25 => ?_) | refine lv_icmp_ge (tgt := 62) hx hb dX10_readFrom_25 (by decide) (fun c25 => ?_) (fun c25 => ?_)
      · skip
        refine xaload_n hx hb dX10_readFrom_62 hl rfl ?_
        refine xaload_n hx hb dX10_readFrom_63 hl rfl ?_
        refine xaload_n hx hb dX10_readFrom_64 hl rfl ?_
        refine xVi ⟨hx, hb, hml, hown, hts⟩ (kX5_size l N0 G _ _ pg hP1) (cwV 0 hts gX10_readFrom_X5_size rfl rfl rfl (by decide +kernel) ⟨Nat.le_of_ble_eq_true rfl, Nat.le_of_ble_eq_true rfl⟩) hG hN hw hS (ci := 5) (by repeat first | assumption | exact wu_eq _ _ _ | refine wu_ne (by omega) ?_) rfl rfl hl.1 rfl (Nat.le_of_ble_eq_true rfl) dX10_readFrom_65 ⟨by simp only [rmA]; omega, by simp only [rmA]; omega⟩ (fun r65 w65 H locs hp65 hw hS => ?_)
        obtain ⟨rfl, rfl⟩ := hp65
        refine lv_iconst (v := nI 1) hx hb dX10_readFrom_68 (by decide) ?_
        first | refine xsub hx hb dX10_readFrom_69 (by omega) ?_ | refine lv_isub hx hb dX10_readFrom_69 ?_
        refine xVi ⟨hx, hb, hml, hown, hts⟩ (kX5_codeAt l N0 G _ _ pg hP1 (pg.length - 1) (by omega)) (cwV 1 hts gX10_readFrom_X5_codeAt rfl rfl rfl (by decide +kernel) ⟨Nat.le_of_ble_eq_true rfl, Nat.le_of_ble_eq_true rfl⟩) hG hN hw hS (ci := 5) (by repeat first | assumption | exact wu_eq _ _ _ | refine wu_ne (by omega) ?_) rfl rfl hl.1 rfl (Nat.le_of_ble_eq_true rfl) dX10_readFrom_70 ⟨by simp only [rmA]; omega, by simp only [rmA]; omega⟩ (fun r70 w70 H locs hp70 hw hS => ?_)
        obtain ⟨rfl, rfl⟩ := hp70
        refine lv_bipush (v := nI 48) hx hb dX10_readFrom_73 (by decide) ?_
        first | refine xsub hx hb dX10_readFrom_75 (by omega) ?_ | refine lv_isub hx hb dX10_readFrom_75 ?_
        refine xput (C := RX10) (T := TX10) (N := 3) hx hb (ci := 10) (ty := .int) hts hiX10 tyX10 tyX10_ok nmX10 hown hG hw hS (by repeat first | assumption | exact wu_eq _ _ _ | refine wu_ne (by omega) ?_) rfl 2 (by decide) hlnk6 (fun _ h9 => h9) rfl (by decide +kernel) rfl rfl (Nat.le_of_ble_eq_true rfl) dX10_readFrom_76 (fun H locs hzz hw hS => ?_)
        refine W.widen (k := 5) (n := 5) (by omega) (by omega) ?_
        exact xvret hx hb hr hlk hw hS dX10_readFrom_79 ⟨rf_rep e1 hg1 c25 hi hpp hn5 hl53, fun a h1 h2 => by rw [wu_nq (by omega)]; exact hO1 a h1 h2⟩
      · skip
        refine xaload_n hx hb dX10_readFrom_28 hl rfl ?_
        refine xget (C := RX10) (T := TX10) (N := 3) hx hb (ci := 10) hts hiX10 hown hG hw (by repeat first | assumption | exact wu_eq _ _ _ | refine wu_ne (by omega) ?_) rfl 0 (by decide) hlnk0 (fun _ h9 => h9) rfl dX10_readFrom_29 ?_
        refine xiload_n hx hb dX10_readFrom_32 hl rfl ?_
        refine xaload_n hx hb dX10_readFrom_33 hl rfl ?_
        refine lv_iconst (v := nI 3) hx hb dX10_readFrom_34 (by decide) ?_
        refine xiload_n hx hb dX10_readFrom_35 hl rfl ?_
        first | refine xmul hx hb dX10_readFrom_36 ?_ | refine lv_imul hx hb dX10_readFrom_36 ?_
        refine xVi ⟨hx, hb, hml, hown, hts⟩ (kX5_codeAt l N0 G _ _ pg hP1 (3 * i) (by omega)) (cwV 1 hts gX10_readFrom_X5_codeAt rfl rfl rfl (by decide +kernel) ⟨Nat.le_of_ble_eq_true rfl, Nat.le_of_ble_eq_true rfl⟩) hG hN hw hS (ci := 5) (by repeat first | assumption | exact wu_eq _ _ _ | refine wu_ne (by omega) ?_) rfl rfl hl.1 rfl (Nat.le_of_ble_eq_true rfl) dX10_readFrom_37 ⟨by simp only [rmA]; omega, by simp only [rmA]; omega⟩ (fun r37 w37 H locs hp37 hw hS => ?_)
        obtain ⟨rfl, rfl⟩ := hp37
        refine xaload_n hx hb dX10_readFrom_40 hl rfl ?_
        refine lv_iconst (v := nI 3) hx hb dX10_readFrom_41 (by decide) ?_
        refine xiload_n hx hb dX10_readFrom_42 hl rfl ?_
        first | refine xmul hx hb dX10_readFrom_43 ?_ | refine lv_imul hx hb dX10_readFrom_43 ?_
        refine lv_iconst (v := nI 1) hx hb dX10_readFrom_44 (by decide) ?_
        first | refine xadd hx hb dX10_readFrom_45 ?_ | refine lv_iadd hx hb dX10_readFrom_45 ?_
        refine xVi ⟨hx, hb, hml, hown, hts⟩ (kX5_codeAt l N0 G _ _ pg hP1 (3 * i + 1) (by omega)) (cwV 1 hts gX10_readFrom_X5_codeAt rfl rfl rfl (by decide +kernel) ⟨Nat.le_of_ble_eq_true rfl, Nat.le_of_ble_eq_true rfl⟩) hG hN hw hS (ci := 5) (by repeat first | assumption | exact wu_eq _ _ _ | refine wu_ne (by omega) ?_) rfl rfl hl.1 rfl (Nat.le_of_ble_eq_true rfl) dX10_readFrom_46 ⟨by simp only [rmA]; omega, by simp only [rmA]; omega⟩ (fun r46 w46 H locs hp46 hw hS => ?_)
        obtain ⟨rfl, rfl⟩ := hp46
        refine lv_bipush (v := nI 48) hx hb dX10_readFrom_49 (by decide) ?_
        obtain ⟨k, hkk, hk4, hw48, hw57⟩ := hpp i c25
        first | refine xsub hx hb dX10_readFrom_51 (by omega) ?_ | refine lv_isub hx hb dX10_readFrom_51 ?_
        refine xSr ⟨hx, hb, hml, hown, hts⟩ (kX10_newPerson l N0 G _ Z eZ (by omega) hZ1 _ _ k (by omega) hkk) (va_cwS 2 hts gX10_readFrom_X10_newPerson rfl rfl rfl (by decide +kernel) ⟨Nat.le_of_ble_eq_true rfl, Nat.le_of_ble_eq_true rfl⟩) hG hN hw hS rfl hl.1 rfl (Nat.le_of_ble_eq_true rfl) dX10_readFrom_52 ⟨by simp only [rmA]; omega, by simp only [rmA]; omega⟩ (fun r52 w52 H locs hp52 hw hS => ?_)
        obtain ⟨q, rfl, hqZ, hqn, hq1, hqo⟩ := hp52
        have e1q := (hqo (t0 + 1) (by omega)).trans e1
        obtain ⟨C, T, Nn, hcc, hcast⟩ := pci_cl hG hk4
        refine xrf rfl ?_
        refine xpast hx hb hG hw hS e1q hq1 hcc hcast (by omega) (by omega) dX10_readFrom_55 (fun H locs hzz hw hS => ?_)
        first | refine xiincN hx hb 1 dX10_readFrom_56 hl rfl (by decide) (by decide) rfl (fun ls hl => ?_) | refine xiinc hx hb dX10_readFrom_56 hl rfl rfl (by decide) rfl (fun ls hl => ?_)
        refine lv_goto (tgt := 20) hx hb dX10_readFrom_59 (by decide) ?_
        exact ih20 (i + 1) _ _ _ _ _ (by omega) (by omega) (by rw [wu_nq (by omega), hqo t0 (by omega)]; exact e0) (wu_eq _ _ _) (rf_step (t := t0 + 1) (k := k) hg1 hqn hq1 hqo (by omega) (by rw [(tP_at c25).1, hkk]; rfl) (tP_at c25).2) (fun a h1 h2 => by rw [wu_nq (by omega), hqo a (by omega)]; exact hO1 a h1 h2) hw hS hl
  exact loop20 6 0 _ g _ _ _ (by omega) (by omega) (wu_eq _ _ _) (by rw [wu_nq (by omega)]; exact ht1) (fun j hj => absurd hj (Nat.not_lt_zero j)) (fun a h1 h2 => by rw [wu_nq (by omega)]) hw hS hl
