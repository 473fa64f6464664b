/-! ===== the text of the kinds' letters; the page ===== -/
theorem xpreVs {s : State} {H : Heap} {N0 : Nat} {G : XG} {w : Wd} {As : List Value} (hG : GK G s) (hN : N0 ≤ H.size ∧ SK N0 G s H) (hw : PW N0 G w H) : PreV s H RJ0 G.2.2.2.2.2.1 (va_Pc (.ref G.2.2.2.2.2.1 :: As) (XP N0 G w)) As :=
  ⟨XP.blind, by obtain ⟨cell, h1, h2, h3, -⟩ := hN.2.2.1; exact ⟨cell, h1, h2, h3⟩, fun U hU hW => ⟨rfl, by rw [hU]; exact ⟨hN.1, hN.2.warm hW⟩, by rw [hU]; exact hw, hG.warm hW⟩⟩
section XT
variable {p : Program} {l : Launch} {e : Env} {R : Room} {s : State} {m : MethodId} {args : Array Value} {below : List Frame} {meth : Method} {c : Code} {H : Heap} {locs : List Loc} {cells slots : Nat} {Q : State → Prop}
variable {cc : ByteArray} {pc : Nat} {ls : Array Slot} {rest st0 : List Value} {N0 : Nat} {G : XG} {w : Wd} {H0 : Heap} {nL mc ms n index maxL : Nat} {y : MethodName} {bytes : ByteArray} {ret : Option FieldType} {ws : List Cond} {rm : Room} {Ts : List Cond} {own : String} {As : List Value}
theorem xVsi {post : Int32 → Wd → Prop} (S : CallFix p m c cc nL s args Ts own) (hM : XM l y ws rm N0 G (.ref G.2.2.2.2.2.1 :: As) w vI post mc ms) (cw : CallW R s args own RJ0 index y bytes maxL ret ws rm mc ms n) (hG : GK G s) (hN : N0 ≤ H0.size ∧ SK N0 G s H0) (hw : PW N0 G w H) (hS : va_S (fun q => N0 ≤ q) H0 H locs) (hn : As.length = n) (hsize : ls.size = nL) (hstack : st0 = As.reverse ++ .ref G.2.2.2.2.2.1 :: rest) (hW : (rest.map fun v => v.category).sum ≤ 8) (hdg : decode cc pc = .ok (.invokevirtual index, 3)) (hf : cells + mc ≤ R.cells ∧ slots + ms ≤ R.slots)
    (kk : ∀ (r : Int32) (w1 : Wd) (H1 : Heap) (locs1 : List Loc), post r w1 → PW N0 G w1 H1 → va_S (fun q => N0 ≤ q) H0 H1 locs1 → W p l e R s m args below meth c H1 locs1 (cells + mc) (slots + ms) Q (F0 m (pc + 3) ls (.int r :: rest))) : W p l e R s m args below meth c H locs cells slots Q (F0 m pc ls st0) :=
  xcall (va_runV S hM cw (xpreVs hG ⟨Nat.le_trans hN.1 hS.1, hN.2.kept hS⟩ hw) rfl hn hsize hstack (lv_room (m := m) (pc := pc) (ls := ls) (rest := st0) hW) hdg hf) hS kk
theorem xbret {post : Int32 → Wd → Prop} (hexec : p.tables.exec = Jvm.exec) (hb : c.code = cc) (hr : meth.sig.returnType = some .byte) (hlk : meth.locks = false) (hw : PW N0 G w H) (hS : va_S (fun q => N0 ≤ q) s.heap H locs) (hdg : decode cc pc = .ok (.ireturn, 1)) (hp : post 0 w) : W p l e R s m args below meth c H locs cells slots (MQ below (XQ N0 G vI post) args s cells slots (fun q => N0 ≤ q)) (F0 m pc ls [.int 0]) :=
  W.zret hexec hb hr (by decide) (fun t ht _ => ⟨⟨_, w, rfl, hp, by rw [ht]; exact hw⟩, hS.F ht⟩) hS.2.2 hdg hlk
end XT
/-- the kind of a letter -/
def kN (c : Nat) : Option Nat := if c = 112 then some 0 else if c = 98 then some 1 else if c = 116 then some 2 else if c = 121 then some 3 else if c = 97 then some 4 else none
theorem kN_lt {c k : Nat} (h : kN c = some k) : k ≤ 4 := by
  unfold kN at h
  repeat (first | (split at h <;> first | (cases h; omega) | skip) | cases h)
theorem kN_at : ∀ i, i < 5 → kN (ltr i) = some i := by decide +kernel
theorem kN_no {c : Nat} (h : ∀ i, i < 5 → ltr i ≠ c) : kN c = none := by
  have h0 : (112 : Nat) ≠ c := h 0 (by omega)
  have h1 : (98 : Nat) ≠ c := h 1 (by omega)
  have h2 : (116 : Nat) ≠ c := h 2 (by omega)
  have h3 : (121 : Nat) ≠ c := h 3 (by omega)
  have h4 : (97 : Nat) ≠ c := h 4 (by omega)
  unfold kN
  rw [if_neg (Ne.symm h0), if_neg (Ne.symm h1), if_neg (Ne.symm h2), if_neg (Ne.symm h3), if_neg (Ne.symm h4)]
theorem ltr_lt (i : Nat) : ltr i < 128 := by
  unfold ltr
  repeat (first | omega | split)
theorem nI_i2b {n : Nat} (h : n < 128) : (nI n).toInt8.toInt32 = nI n := by
  have : ∀ n, n < 128 → (nI n).toInt8.toInt32 = nI n := by decide +kernel
  exact this n h
theorem nI_i2c {n : Nat} (h : n < 65536) : ((nI n).toUInt32 % 65536).toInt32 = nI n := by rw [pk_char, pk_tn (by omega), Nat.mod_eq_of_lt h]
def pgc (pg : List Nat) (i : Nat) : Nat := pg.getD i 0
def RPage (G : XG) (w : Wd) (p0 : Nat) (pg : List Nat) : Prop := ∃ f : Nat → Int32, w p0 = some (eO 5 [.ref (p0 + 1), .int (nI pg.length)]) ∧ w (p0 + 1) = some (eI G 18 f) ∧ pg.length ≤ 18 ∧ (∀ i, i < pg.length → f i = nI (pgc pg i)) ∧ ∀ i, i < pg.length → 32 ≤ pgc pg i ∧ pgc pg i ≤ 126
theorem RPage.keep {G : XG} {w w1 : Wd} {p0 : Nat} {pg : List Nat} (h : RPage G w p0 pg) (h0 : w1 p0 = w p0) (h1 : w1 (p0 + 1) = w (p0 + 1)) : RPage G w1 p0 pg := by
  obtain ⟨f, a, b, c⟩ := h
  exact ⟨f, h0.trans a, h1.trans b, c⟩
theorem RPage.out {G : XG} {w w1 : Wd} {p0 lo hi : Nat} {pg : List Nat} (h : RPage G w p0 pg) (ho : Out w w1 lo hi) (hd : p0 + 2 ≤ lo ∨ hi ≤ p0) : RPage G w1 p0 pg := h.keep (ho _ (by omega)) (ho _ (by omega))
theorem pgc_out {pg : List Nat} {i : Nat} (h : pg.length ≤ i) : pgc pg i = 0 := by
  unfold pgc
  rw [List.getD_eq_getElem?_getD, List.getElem?_eq_none h]
  rfl
theorem pgc_app {pg : List Nat} {c i : Nat} (h : i < pg.length) : pgc (pg ++ [c]) i = pgc pg i := by
  unfold pgc
  rw [List.getD_eq_getElem?_getD, List.getD_eq_getElem?_getD, List.getElem?_append_left h]
theorem pgc_last (pg : List Nat) (c : Nat) : pgc (pg ++ [c]) pg.length = c := by
  unfold pgc
  rw [List.getD_eq_getElem?_getD, List.getElem?_append_right (Nat.le_refl _)]
  simp
theorem pgc_126 {G : XG} {w : Wd} {p0 : Nat} {pg : List Nat} (h : RPage G w p0 pg) (i : Nat) : pgc pg i ≤ 126 := by
  obtain ⟨f, -, -, -, -, d⟩ := h
  rcases Nat.lt_or_ge i pg.length with q | q
  · exact (d i q).2
  · rw [pgc_out q]; omega
theorem RPage.cell {G : XG} {w : Wd} {p0 : Nat} {pg : List Nat} (h : RPage G w p0 pg) : w p0 = some (eO 5 [.ref (p0 + 1), .int (nI pg.length)]) := h.choose_spec.1
theorem RPage.len {G : XG} {w : Wd} {p0 : Nat} {pg : List Nat} (h : RPage G w p0 pg) : pg.length ≤ 18 := h.choose_spec.2.2.1
theorem add_rep {G : XG} {w : Wd} {p0 : Nat} {pg : List Nat} {f : Nat → Int32} {c : Nat} (h : RPage G w p0 pg) (h1 : w (p0 + 1) = some (eI G 18 f)) (hf : ∀ i, i < pg.length → f i = nI (pgc pg i)) (hlt : pg.length < 18) (hc : 32 ≤ c ∧ c ≤ 126) : RPage G (wu (wu w (p0 + 1) (eI G 18 (upd f pg.length (nI c)))) p0 (eO 5 [.ref (p0 + 1), .int (nI (pg.length + 1))])) p0 (pg ++ [c]) := by
  obtain ⟨f', a, b, d, -, d2⟩ := h
  refine ⟨upd f pg.length (nI c), ?_, by rw [wu_nq (by omega), wu_eq], by simp; omega, fun i hi => ?_, fun i hi => ?_⟩
  · rw [wu_eq]; simp
  · simp at hi
    by_cases hil : i = pg.length
    · subst hil; rw [pk_us, pgc_last]
    · rw [pk_un hil, pgc_app (by omega)]; exact hf i (by omega)
  · simp at hi
    by_cases hil : i = pg.length
    · subst hil; rw [pgc_last]; exact hc
    · rw [pgc_app (by omega)]; exact d2 i (by omega)
theorem pclear_rep {G : XG} {w : Wd} {p0 : Nat} {pg : List Nat} (h : RPage G w p0 pg) : RPage G (wu w p0 (eO 5 [.ref (p0 + 1), .int (nI 0)])) p0 [] := by
  obtain ⟨f', a, b, -⟩ := h
  exact ⟨f', wu_eq _ _ _, by rw [wu_nq (by omega)]; exact b, by simp, by simp, by simp⟩
/-- does the letter at i go on with people -/
def fitP (pg : List Nat) (i : Nat) : Bool := if i % 3 = 0 then (kN (pgc pg i)).isSome else if i % 3 = 1 then decide (48 ≤ pgc pg i ∧ pgc pg i ≤ 57) else decide (pgc pg i = 44 ∧ i / 3 + 1 < 5 ∨ pgc pg i = 59 ∧ 2 ≤ i / 3 + 1)
def isLim (c : Nat) : Bool := decide (49 ≤ c ∧ c ≤ 53)
/-- the first fault from i on, n letters being left -/
def ff (pg : List Nat) : Nat → Nat → Nat
  | 0, i => i
  | n + 1, i => if fitP pg i = true then (if pgc pg i = 59 then (if n = 0 then i + 1 else if isLim (pgc pg (i + 1)) = true then i + 2 else i + 1) else ff pg n (i + 1)) else i
def isT (pg : List Nat) : Bool := decide (2 ≤ pg.length ∧ pgc pg (pg.length - 2) = 59 ∧ ff pg pg.length 0 = pg.length)
theorem ff_le (pg : List Nat) : ∀ n i, ff pg n i ≤ i + n
  | 0, i => Nat.le_refl _
  | n + 1, i => by
    rw [ff]
    have := ff_le pg n (i + 1)
    by_cases h1 : fitP pg i = true
    · rw [if_pos h1]
      by_cases h2 : pgc pg i = 59
      · rw [if_pos h2]
        by_cases h3 : n = 0
        · rw [if_pos h3]; omega
        · rw [if_neg h3]; split <;> omega
      · rw [if_neg h2]; omega
    · rw [if_neg h1]; omega
theorem ff_all {pg : List Nat} : ∀ (n i : Nat), ff pg n i = i + n → 2 ≤ n → pgc pg (i + n - 2) = 59 → (∀ j, i ≤ j → j < i + n - 2 → fitP pg j = true ∧ pgc pg j ≠ 59) ∧ fitP pg (i + n - 2) = true ∧ isLim (pgc pg (i + n - 1)) = true
  | 0, _, _, h2, _ => by omega
  | n + 1, i, hf, h2, h59 => by
    have hle := ff_le pg n (i + 1)
    rw [ff] at hf
    by_cases hfit : fitP pg i = true
    · rw [if_pos hfit] at hf
      by_cases hc : pgc pg i = 59
      · rw [if_pos hc, if_neg (show ¬ n = 0 by omega)] at hf
        by_cases hlim : isLim (pgc pg (i + 1)) = true
        · rw [if_pos hlim] at hf
          have hn : n = 1 := by omega
          subst hn
          refine ⟨fun j h3 h4 => by omega, hfit, hlim⟩
        · rw [if_neg hlim] at hf
          exact absurd hf (by omega)
      · rw [if_neg hc] at hf
        rcases (show n = 1 ∨ 2 ≤ n by omega) with hn | hn
        · subst hn
          exact absurd h59 hc
        · have h := ff_all (pg := pg) n (i + 1) (by omega) hn (by rw [show i + 1 + n - 2 = i + (n + 1) - 2 by omega]; exact h59)
          rw [show i + 1 + n - 2 = i + (n + 1) - 2 by omega, show i + 1 + n - 1 = i + (n + 1) - 1 by omega] at h
          refine ⟨fun j h3 h4 => ?_, h.2⟩
          rcases Nat.lt_or_ge i j with q | q
          · exact h.1 j q h4
          · rw [show j = i by omega]; exact ⟨hfit, hc⟩
    · rw [if_neg hfit] at hf
      omega
theorem fitP_59 {pg : List Nat} {i : Nat} (h : fitP pg i = true) (hc : pgc pg i = 59) : i % 3 = 2 ∧ 2 ≤ i / 3 + 1 := by
  unfold fitP at h
  rw [hc] at h
  split at h
  · exact absurd h (by decide)
  · split at h
    · exact absurd h (by decide)
    · have := of_decide_eq_true h
      omega
/-- what a town's text is -/
theorem isT_spec {pg : List Nat} (h : isT pg = true) (h18 : pg.length ≤ 18) : pg.length % 3 = 1 ∧ 2 ≤ pg.length / 3 ∧ pg.length / 3 ≤ 5 ∧ (∀ i, i < pg.length / 3 → ∃ k, kN (pgc pg (3 * i)) = some k ∧ k ≤ 4 ∧ 48 ≤ pgc pg (3 * i + 1) ∧ pgc pg (3 * i + 1) ≤ 57) ∧ 49 ≤ pgc pg (pg.length - 1) ∧ pgc pg (pg.length - 1) ≤ 53 := by
  obtain ⟨h1, h2, h3⟩ := of_decide_eq_true h
  have ha := ff_all (pg := pg) pg.length 0 (by omega) h1 (by rw [show 0 + pg.length - 2 = pg.length - 2 by omega]; exact h2)
  rw [show 0 + pg.length - 2 = pg.length - 2 by omega, show 0 + pg.length - 1 = pg.length - 1 by omega] at ha
  obtain ⟨h4, h5, h6⟩ := ha
  have h7 := fitP_59 h5 h2
  have h8 := of_decide_eq_true h6
  have hfit : ∀ j, j < pg.length - 1 → fitP pg j = true := fun j hj => by
    rcases (show j < pg.length - 2 ∨ j = pg.length - 2 by omega) with q | q
    · exact (h4 j (by omega) q).1
    · rw [q]; exact h5
  refine ⟨by omega, by omega, by omega, fun i hi => ?_, h8.1, h8.2⟩
  have f0 := hfit (3 * i) (by omega)
  have f1 := hfit (3 * i + 1) (by omega)
  unfold fitP at f0 f1
  rw [if_pos (by omega)] at f0
  rw [if_neg (by omega), if_pos (by omega)] at f1
  have f2 := of_decide_eq_true f1
  cases hk : kN (pgc pg (3 * i)) with
  | none => rw [hk] at f0; cases f0
  | some k => exact ⟨k, rfl, kN_lt hk, f2.1, f2.2⟩
def tP (pg : List Nat) : PK := (List.range (pg.length / 3)).map (fun i => ((kN (pgc pg (3 * i))).getD 0, pgc pg (3 * i + 1) - 48))
def tL (pg : List Nat) : Nat := pgc pg (pg.length - 1) - 48
theorem tP_len (pg : List Nat) : (tP pg).length = pg.length / 3 := by simp [tP]
theorem tP_at {pg : List Nat} {i : Nat} (h : i < pg.length / 3) : kd (tP pg) i = (kN (pgc pg (3 * i))).getD 0 ∧ wo (tP pg) i = pgc pg (3 * i + 1) - 48 := by
  unfold kd wo tP
  rw [List.getD_eq_getElem?_getD, List.getElem?_map, List.getElem?_range h]
  exact ⟨rfl, rfl⟩
theorem oI_isS {c : Nat} (h : ¬ oI (kN c) < 0) : (kN c).isSome = true := by
  cases hk : kN c with
  | none => rw [hk] at h; exact absurd (by decide) h
  | some k => rfl
theorem oI_isN {c : Nat} (h : oI (kN c) < 0) : (kN c).isSome = false := by
  cases hk : kN c with
  | none => rfl
  | some k => rw [hk] at h; exact absurd h (nI_pos (by have := kN_lt hk; omega))
theorem ff_no {pg : List Nat} {i : Nat} (hi : i < pg.length) (h : fitP pg i = false) : ff pg (pg.length - i) i = i := by
  obtain ⟨n, hn⟩ : ∃ n, pg.length - i = n + 1 := ⟨pg.length - i - 1, by omega⟩
  rw [hn, ff, if_neg (by rw [h]; decide)]
theorem ff_s1 {pg : List Nat} {i : Nat} {en : Bool} (hi : i < pg.length) (he : ff pg pg.length 0 = ff pg (pg.length - i) i) (h : fitP pg i = true) : (pgc pg i ≠ 59 → ff pg pg.length 0 = ff pg (pg.length - (i + 1)) (i + 1)) ∧ (pgc pg i = 59 → ff pg pg.length 0 = (if i + 1 = pg.length then i + 1 else if isLim (pgc pg (i + 1)) = true then i + 1 + 1 else i + 1)) := by
  obtain ⟨n, hn⟩ : ∃ n, pg.length - i = n + 1 := ⟨pg.length - i - 1, by omega⟩
  rw [hn, ff, if_pos h] at he
  refine ⟨fun h1 => ?_, fun h1 => ?_⟩
  · rw [if_neg h1] at he
    rw [he, show pg.length - (i + 1) = n by omega]
  · rw [if_pos h1] at he
    rw [he]
    by_cases h2 : n = 0
    · rw [if_pos h2]; exact (if_pos (by omega)).symm
    · rw [if_neg h2]; exact (if_neg (show ¬ i + 1 = pg.length by omega)).symm
theorem ff_end {pg : List Nat} {i : Nat} {en : Bool} (hi : i ≤ pg.length) (h : pg.length ≤ i) (h1 : en = false → ff pg pg.length 0 = ff pg (pg.length - i) i) (h2 : en = true → ff pg pg.length 0 = (if i = pg.length then i else if isLim (pgc pg i) = true then i + 1 else i)) : ff pg pg.length 0 = pg.length := by
  cases en with
  | false => rw [h1 rfl, show pg.length - i = 0 by omega, ff]; omega
  | true => rw [h2 rfl, if_pos (by omega)]; omega
set_option maxHeartbeats 4000000 in
set_option maxRecDepth 100000 in
theorem kJ1_canEncode_9a6ad (l : Launch) (N0 : Nat) (G : XG) (w : Wd) (n : Nat) (hn : n < 256) : XM l yJ1_canEncode_9a6ad wsJ1_canEncode_9a6ad (rmD 1) N0 G [.int (nI n)] w vI (fun r w1 => bI true = r ∧ w = w1) 0 0 := by
  refine XM.of (cc := cJ1_canEncode_9a6ad) (maxL := 1) (ret := (some .boolean)) (by decide) rfl (Nat.le_of_ble_eq_true rfl) ?_
  intro p e s m below meth c hx hb hr hlk hin0 hml hown hts hN hw hG hS ls hl
  have hown : s.vm.findClass RJ1 = some m.cls := hown
  have hl : lh ls 1 [some (.int (nI n))] := hl
  refine xiload_n hx hb dJ1_canEncode_9a6ad_0 hl rfl ?_
  refine xif_lt (tgt := 15) hx hb dJ1_canEncode_9a6ad_1 (by decide) (by omega) ?_
  refine xiload_n hx hb dJ1_canEncode_9a6ad_4 hl rfl ?_
  refine lv_sipush (v := nI 255) hx hb dJ1_canEncode_9a6ad_5 (by decide) ?_
  first | refine xcmp_gt (tgt := 15) hx hb dJ1_canEncode_9a6ad_8 (by decide) (by omega) (by omega) (fun c8 => ?_) (fun c8 => ?_) | refine lv_icmp_gt (tgt := 15) hx hb dJ1_canEncode_9a6ad_8 (by decide) (fun c8 => ?_) (fun c8 => ?_)
  · skip
    exfalso
    omega
  · skip
    refine lv_iconst (v := nI 1) hx hb dJ1_canEncode_9a6ad_11 (by decide) ?_
    refine lv_goto (tgt := 16) hx hb dJ1_canEncode_9a6ad_12 (by decide) ?_
    first | exact xzret hx hb hr hlk hw hS dJ1_canEncode_9a6ad_16 true rfl ⟨rfl, rfl⟩ | exact xzret hx hb hr hlk hw hS dJ1_canEncode_9a6ad_16 false rfl ⟨rfl, rfl⟩
set_option maxHeartbeats 4000000 in
set_option maxRecDepth 100000 in
theorem kJ1_indexOfChar_4cfef (l : Launch) (N0 : Nat) (G : XG) (w : Wd) (n : Nat) (hn : n < 128) : XM l yJ1_indexOfChar_4cfef wsJ1_indexOfChar_4cfef (rmD 1) N0 G [.ref G.2.2.2.2.2.2, .int (nI n), .int (nI 0), .int (nI 5)] w vI (fun r w1 => oI (kN n) = r ∧ w = w1) 0 0 := by
  refine XM.of (cc := cJ1_indexOfChar_4cfef) (maxL := 6) (ret := (some .int)) (by decide) rfl (Nat.le_of_ble_eq_true rfl) ?_
  intro p e s m below meth c hx hb hr hlk hin0 hml hown hts hN hw hG hS ls hl
  have hown : s.vm.findClass RJ1 = some m.cls := hown
  have hl : lh ls 6 [some (.ref G.2.2.2.2.2.2), some (.int (nI n)), some (.int (nI 0)), some (.int (nI 5)), none, none] := hl
  refine xiload_n hx hb dJ1_indexOfChar_4cfef_0 hl rfl ?_
  refine lv_i2b (v := nI n) hx hb dJ1_indexOfChar_4cfef_1 (nI_i2b hn) ?_
  refine xistore hx hb dJ1_indexOfChar_4cfef_2 hl (by decide) rfl (fun ls hl => ?_)
  refine xiload_n hx hb dJ1_indexOfChar_4cfef_4 hl rfl ?_
  refine xistore hx hb dJ1_indexOfChar_4cfef_5 hl (by decide) rfl (fun ls hl => ?_)
  have loop7 : ∀ (nf : Nat) (i : Nat) (H : Heap) (locs : List Loc) (ls : Array Slot), 5 - i < nf → (i ≤ 5) → (∀ j, j < i → ltr j ≠ n) → PW N0 G w H → va_S (fun q => N0 ≤ q) s.heap H locs → lh ls 6 [some (.ref G.2.2.2.2.2.2), some (.int (nI n)), some (.int (nI 0)), some (.int (nI 5)), some (.int (nI n)), some (.int (nI i))] → W p l e (rmD 1) s m ([.ref G.2.2.2.2.2.2, .int (nI n), .int (nI 0), .int (nI 5)] : List Value).toArray below meth c H locs 0 0 (MQ below (XQ N0 G vI (fun r w1 => oI (kN n) = r ∧ w = w1)) ([.ref G.2.2.2.2.2.2, .int (nI n), .int (nI 0), .int (nI 5)] : List Value).toArray s 0 0 (fun q => N0 ≤ q)) (F0 m 7 ls []) := by
    intro nf
    induction nf with
    | zero => intros; omega
    | succ nf ih7 =>
      intro i H locs ls hnf hi hno hw hS hl
      refine xiload hx hb dJ1_indexOfChar_4cfef_7 hl rfl ?_
      refine xiload_n hx hb dJ1_indexOfChar_4cfef_9 hl rfl ?_
      first | refine xcmp_ge (tgt := 31) hx hb dJ1_indexOfChar_4cfef_10 (by decide) (by omega) (by omega) (fun c10 => ?_) (fun c10 => ?_) | refine lv_icmp_ge (tgt := 31) hx hb dJ1_indexOfChar_4cfef_10 (by decide) (fun c10 => ?_) (fun c10 => ?_)
      · skip
        refine lv_iconst (v := -1) hx hb dJ1_indexOfChar_4cfef_31 (by decide) ?_
        exact xiret hx hb hr hlk hw hS dJ1_indexOfChar_4cfef_32 ⟨by rw [kN_no (fun j hj => hno j (by omega))]; rfl, rfl⟩
      · skip
        refine xaload_n hx hb dJ1_indexOfChar_4cfef_13 hl rfl ?_
        refine xiload hx hb dJ1_indexOfChar_4cfef_14 hl rfl ?_
        refine va_tb (v := .int (nI (ltr i))) hx hb hN.2.2.2.2.2.1 hS (vp_in_nI (n := i) (by omega) (by omega)) (by rw [nI_clamp (by omega)]) dJ1_indexOfChar_4cfef_16 ?_
        have hlt := ltr_lt i
        refine xiload hx hb dJ1_indexOfChar_4cfef_17 hl rfl ?_
        first | refine xcmp_ne (tgt := 25) hx hb dJ1_indexOfChar_4cfef_19 (by decide) (by omega) (by omega) (fun c19 => ?_) (fun c19 => ?_) | refine lv_icmp_ne (tgt := 25) hx hb dJ1_indexOfChar_4cfef_19 (by decide) (fun c19 => ?_) (fun c19 => ?_)
        · skip
          first | refine xiincN hx hb 1 dJ1_indexOfChar_4cfef_25 hl rfl (by decide) (by decide) rfl (fun ls hl => ?_) | refine xiinc hx hb dJ1_indexOfChar_4cfef_25 hl rfl rfl (by decide) rfl (fun ls hl => ?_)
          refine lv_goto (tgt := 7) hx hb dJ1_indexOfChar_4cfef_28 (by decide) ?_
          exact ih7 (i + 1) _ _ _ (by omega) (by omega) (fun j hj => by
            rcases Nat.lt_or_ge j i with q | q
            · exact hno j q
            · rw [show j = i by omega]; exact c19) hw hS hl
        · skip
          refine xiload hx hb dJ1_indexOfChar_4cfef_22 hl rfl ?_
          exact xiret hx hb hr hlk hw hS dJ1_indexOfChar_4cfef_24 ⟨by rw [← c19, kN_at i c10]; rfl, rfl⟩
  exact loop7 6 0 _ _ _ (by omega) (by omega) (fun j hj => absurd hj (Nat.not_lt_zero j)) hw hS hl
set_option maxHeartbeats 4000000 in
set_option maxRecDepth 100000 in
theorem kJ1_indexOf_4cfef (l : Launch) (N0 : Nat) (G : XG) (w : Wd) (n : Nat) (hn : n < 128) : XM l yJ1_indexOf_4cfef wsJ1_indexOf_4cfef (rmD 2) N0 G [.ref G.2.2.2.2.2.2, .int (nI n), .int (nI 0), .int (nI 5)] w vI (fun r w1 => oI (kN n) = r ∧ w = w1) 0 0 := by
  refine XM.of (cc := cJ1_indexOf_4cfef) (maxL := 4) (ret := (some .int)) (by decide) rfl (Nat.le_of_ble_eq_true rfl) ?_
  intro p e s m below meth c hx hb hr hlk hin0 hml hown hts hN hw hG hS ls hl
  have hown : s.vm.findClass RJ1 = some m.cls := hown
  have hlnk0 := hts (.methodLink RJ1 92 Lib.Math.max.name) (by decide +kernel)
  have hlnk1 := hts (.static Lib.Math.max.name) (by decide +kernel)
  have hlnk2 := hts (.initialized "java/lang/Math") (by decide +kernel)
  have hlnk3 := hts (.code Lib.Math.max.name Lib.Math.max.code 2 (some .int)) (by decide +kernel)
  have hlnk4 := hts (.methodLink RJ1 38 Lib.Math.min.name) (by decide +kernel)
  have hlnk5 := hts (.static Lib.Math.min.name) (by decide +kernel)
  have hlnk6 := hts (.code Lib.Math.min.name Lib.Math.min.code 2 (some .int)) (by decide +kernel)
  have hl : lh ls 4 [some (.ref G.2.2.2.2.2.2), some (.int (nI n)), some (.int (nI 0)), some (.int (nI 5))] := hl
  refine xiload_n hx hb dJ1_indexOf_4cfef_0 hl rfl ?_
  refine xSi ⟨hx, hb, hml, hown, hts⟩ (kJ1_canEncode_9a6ad l N0 G _ n (by omega)) (va_cwS 1 hts gJ1_indexOf_4cfef_J1_canEncode_9a6ad rfl rfl rfl (by decide +kernel) ⟨Nat.le_of_ble_eq_true rfl, Nat.le_of_ble_eq_true rfl⟩) hG hN hw hS rfl hl.1 rfl (Nat.le_of_ble_eq_true rfl) dJ1_indexOf_4cfef_1 ⟨Nat.le_of_ble_eq_true rfl, Nat.le_of_ble_eq_true rfl⟩ (fun r1 w1 H locs hp1 hw hS => ?_)
  obtain ⟨rfl, rfl⟩ := hp1
  first | refine xifb_ne (tgt := 9) hx hb dJ1_indexOf_4cfef_4 (by decide) (fun c4 => ?_) (fun c4 => ?_) | refine xif_ne (tgt := 9) hx hb dJ1_indexOf_4cfef_4 (by decide) (by omega) (fun c4 => ?_) (fun c4 => ?_) | refine lv_if_ne (tgt := 9) hx hb dJ1_indexOf_4cfef_4 (by decide) (fun c4 => ?_) (fun c4 => ?_)
  · skip
    refine xiload_n hx hb dJ1_indexOf_4cfef_9 hl rfl ?_
    refine lv_iconst (v := nI 0) hx hb dJ1_indexOf_4cfef_10 (by decide) ?_
    refine va_mmax hx hb (hml.trans hl.1.symm) hown hlnk0 hlnk1 hlnk2 hlnk3 (Nat.le_of_ble_eq_true rfl) (Nat.le_of_ble_eq_true rfl) (Nat.le_of_ble_eq_true rfl) (Nat.le_of_ble_eq_true rfl) dJ1_indexOf_4cfef_11 ?_
    refine xtop (y := nI 0) (by decide) ?_
    refine xistore_n hx hb dJ1_indexOf_4cfef_14 hl (by decide) rfl (fun ls hl => ?_)
    refine xiload_n hx hb dJ1_indexOf_4cfef_15 hl rfl ?_
    refine xaload_n hx hb dJ1_indexOf_4cfef_16 hl rfl ?_
    refine va_tlen (v := nI 5) hx hb hN.2.2.2.2.2.1 hS rfl dJ1_indexOf_4cfef_17 ?_
    refine va_mmin hx hb (hml.trans hl.1.symm) hown hlnk4 hlnk5 hlnk2 hlnk6 (Nat.le_of_ble_eq_true rfl) (Nat.le_of_ble_eq_true rfl) (Nat.le_of_ble_eq_true rfl) (Nat.le_of_ble_eq_true rfl) dJ1_indexOf_4cfef_18 ?_
    refine xtop (y := nI 5) (by decide) ?_
    refine xistore_n hx hb dJ1_indexOf_4cfef_21 hl (by decide) rfl (fun ls hl => ?_)
    refine xiload_n hx hb dJ1_indexOf_4cfef_22 hl rfl ?_
    refine xiload_n hx hb dJ1_indexOf_4cfef_23 hl rfl ?_
    first | refine xcmp_lt (tgt := 29) hx hb dJ1_indexOf_4cfef_24 (by decide) (by omega) (by omega) (fun c24 => ?_) (fun c24 => ?_) | refine lv_icmp_lt (tgt := 29) hx hb dJ1_indexOf_4cfef_24 (by decide) (fun c24 => ?_) (fun c24 => ?_)
    · skip
      refine xaload_n hx hb dJ1_indexOf_4cfef_29 hl rfl ?_
      refine xiload_n hx hb dJ1_indexOf_4cfef_30 hl rfl ?_
      refine xiload_n hx hb dJ1_indexOf_4cfef_31 hl rfl ?_
      refine xiload_n hx hb dJ1_indexOf_4cfef_32 hl rfl ?_
      refine xSi ⟨hx, hb, hml, hown, hts⟩ (kJ1_indexOfChar_4cfef l N0 G _ n hn) (va_cwS 4 hts gJ1_indexOf_4cfef_J1_indexOfChar_4cfef rfl rfl rfl (by decide +kernel) ⟨Nat.le_of_ble_eq_true rfl, Nat.le_of_ble_eq_true rfl⟩) hG hN hw hS rfl hl.1 rfl (Nat.le_of_ble_eq_true rfl) dJ1_indexOf_4cfef_33 ⟨Nat.le_of_ble_eq_true rfl, Nat.le_of_ble_eq_true rfl⟩ (fun r33 w33 H locs hp33 hw hS => ?_)
      obtain ⟨rfl, rfl⟩ := hp33
      exact xiret hx hb hr hlk hw hS dJ1_indexOf_4cfef_36 ⟨rfl, rfl⟩
    · skip
      exfalso
      omega
  · skip
    exfalso
    cases c4
set_option maxHeartbeats 4000000 in
set_option maxRecDepth 100000 in
theorem kJ0_isLatin1_aae02 (l : Launch) (N0 : Nat) (G : XG) (w : Wd)  : XM l yJ0_isLatin1_aae02 wsJ0_isLatin1_aae02 (rmD 1) N0 G [.ref G.2.2.2.2.2.1] w vI (fun r w1 => bI true = r ∧ w = w1) 0 0 := by
  refine XM.of (cc := cJ0_isLatin1_aae02) (maxL := 1) (ret := (some .boolean)) (by decide) rfl (Nat.le_of_ble_eq_true rfl) ?_
  intro p e s m below meth c hx hb hr hlk hin0 hml hown hts hN hw hG hS ls hl
  have hown : s.vm.findClass RJ0 = some m.cls := hown
  have hlnk0 := hts (.fieldLink RJ0 38 "java/lang/String" "COMPACT_STRINGS" "Z") (by decide +kernel)
  have hlnk1 := hts (.fieldLink RJ0 15 "java/lang/String" "coder" "B") (by decide +kernel)
  have hl : lh ls 1 [some (.ref G.2.2.2.2.2.1)] := hl
  refine va_gets hx hb hN.2.2.2.2.2.2 hS hown hlnk0 (fun _ h9 => h9) dJ0_isLatin1_aae02_0 ?_
  refine xtop (y := nI 1) rfl ?_
  first | refine xifb_eq (tgt := 17) hx hb dJ0_isLatin1_aae02_3 (by decide) (fun c3 => ?_) (fun c3 => ?_) | refine xif_eq (tgt := 17) hx hb dJ0_isLatin1_aae02_3 (by decide) (by omega) (fun c3 => ?_) (fun c3 => ?_) | refine lv_if_eq (tgt := 17) hx hb dJ0_isLatin1_aae02_3 (by decide) (fun c3 => ?_) (fun c3 => ?_)
  · skip
    exfalso
    omega
  · skip
    refine xaload_n hx hb dJ0_isLatin1_aae02_6 hl rfl ?_
    refine vk_getf hx hb hN.2.2.2.1 hS hown hlnk1 (fun _ h9 => h9) dJ0_isLatin1_aae02_7 ?_
    refine xtop (y := nI 0) rfl ?_
    first | refine xifb_ne (tgt := 17) hx hb dJ0_isLatin1_aae02_10 (by decide) (fun c10 => ?_) (fun c10 => ?_) | refine xif_ne (tgt := 17) hx hb dJ0_isLatin1_aae02_10 (by decide) (by omega) (fun c10 => ?_) (fun c10 => ?_) | refine lv_if_ne (tgt := 17) hx hb dJ0_isLatin1_aae02_10 (by decide) (fun c10 => ?_) (fun c10 => ?_)
    · skip
      exfalso
      omega
    · skip
      refine lv_iconst (v := nI 1) hx hb dJ0_isLatin1_aae02_13 (by decide) ?_
      refine lv_goto (tgt := 18) hx hb dJ0_isLatin1_aae02_14 (by decide) ?_
      first | exact xzret hx hb hr hlk hw hS dJ0_isLatin1_aae02_18 true rfl ⟨rfl, rfl⟩ | exact xzret hx hb hr hlk hw hS dJ0_isLatin1_aae02_18 false rfl ⟨rfl, rfl⟩
set_option maxHeartbeats 4000000 in
set_option maxRecDepth 100000 in
theorem kJ0_coder_7d493 (l : Launch) (N0 : Nat) (G : XG) (w : Wd)  : XM l yJ0_coder_7d493 wsJ0_coder_7d493 (rmD 1) N0 G [.ref G.2.2.2.2.2.1] w vI (fun r w1 => (0 : Int32) = r ∧ w = w1) 0 0 := by
  refine XM.of (cc := cJ0_coder_7d493) (maxL := 1) (ret := (some .byte)) (by decide) rfl (Nat.le_of_ble_eq_true rfl) ?_
  intro p e s m below meth c hx hb hr hlk hin0 hml hown hts hN hw hG hS ls hl
  have hown : s.vm.findClass RJ0 = some m.cls := hown
  have hlnk0 := hts (.fieldLink RJ0 38 "java/lang/String" "COMPACT_STRINGS" "Z") (by decide +kernel)
  have hlnk1 := hts (.fieldLink RJ0 15 "java/lang/String" "coder" "B") (by decide +kernel)
  have hl : lh ls 1 [some (.ref G.2.2.2.2.2.1)] := hl
  refine va_gets hx hb hN.2.2.2.2.2.2 hS hown hlnk0 (fun _ h9 => h9) dJ0_coder_7d493_0 ?_
  refine xtop (y := nI 1) rfl ?_
  first | refine xifb_eq (tgt := 13) hx hb dJ0_coder_7d493_3 (by decide) (fun c3 => ?_) (fun c3 => ?_) | refine xif_eq (tgt := 13) hx hb dJ0_coder_7d493_3 (by decide) (by omega) (fun c3 => ?_) (fun c3 => ?_) | refine lv_if_eq (tgt := 13) hx hb dJ0_coder_7d493_3 (by decide) (fun c3 => ?_) (fun c3 => ?_)
  · skip
    exfalso
    omega
  · skip
    refine xaload_n hx hb dJ0_coder_7d493_6 hl rfl ?_
    refine vk_getf hx hb hN.2.2.2.1 hS hown hlnk1 (fun _ h9 => h9) dJ0_coder_7d493_7 ?_
    refine lv_goto (tgt := 14) hx hb dJ0_coder_7d493_10 (by decide) ?_
    exact xbret hx hb hr hlk hw hS dJ0_coder_7d493_14 ⟨rfl, rfl⟩
set_option maxHeartbeats 4000000 in
set_option maxRecDepth 100000 in
theorem kJ0_length_8abf5 (l : Launch) (N0 : Nat) (G : XG) (w : Wd)  : XM l yJ0_length_8abf5 wsJ0_length_8abf5 (rmD 2) N0 G [.ref G.2.2.2.2.2.1] w vI (fun r w1 => nI 5 = r ∧ w = w1) 0 0 := by
  refine XM.of (cc := cJ0_length_8abf5) (maxL := 1) (ret := (some .int)) (by decide) rfl (Nat.le_of_ble_eq_true rfl) ?_
  intro p e s m below meth c hx hb hr hlk hin0 hml hown hts hN hw hG hS ls hl
  have hown : s.vm.findClass RJ0 = some m.cls := hown
  have hlnk0 := hts (.fieldLink RJ0 9 "java/lang/String" "value" "[B") (by decide +kernel)
  have hl : lh ls 1 [some (.ref G.2.2.2.2.2.1)] := hl
  refine xaload_n hx hb dJ0_length_8abf5_0 hl rfl ?_
  refine vk_getf hx hb hN.2.2.2.2.1 hS hown hlnk0 (fun _ h9 => h9) dJ0_length_8abf5_1 ?_
  refine va_tlen (v := nI 5) hx hb hN.2.2.2.2.2.1 hS rfl dJ0_length_8abf5_4 ?_
  refine xaload_n hx hb dJ0_length_8abf5_5 hl rfl ?_
  refine xVsi ⟨hx, hb, hml, hown, hts⟩ (kJ0_coder_7d493 l N0 G w) (cwV 0 hts gJ0_length_8abf5_J0_coder_7d493 rfl rfl rfl (by decide +kernel) ⟨Nat.le_of_ble_eq_true rfl, Nat.le_of_ble_eq_true rfl⟩) hG hN hw hS rfl hl.1 rfl (Nat.le_of_ble_eq_true rfl) dJ0_length_8abf5_6 ⟨Nat.le_of_ble_eq_true rfl, Nat.le_of_ble_eq_true rfl⟩ (fun r6 w6 H locs hp6 hw hS => ?_)
  obtain ⟨rfl, rfl⟩ := hp6
  first | refine xshr hx hb dJ0_length_8abf5_9 (by omega) (by omega) ?_ | refine lv_ishr hx hb dJ0_length_8abf5_9 ?_
  exact xiret hx hb hr hlk hw hS dJ0_length_8abf5_10 ⟨by decide, rfl⟩
set_option maxHeartbeats 4000000 in
set_option maxRecDepth 100000 in
theorem kJ0_indexOf_7cf53 (l : Launch) (N0 : Nat) (G : XG) (w : Wd) (n : Nat) (hn : n < 128) : XM l yJ0_indexOf_7cf53 wsJ0_indexOf_7cf53 (rmD 3) N0 G [.ref G.2.2.2.2.2.1, .int (nI n), .int (nI 0)] w vI (fun r w1 => oI (kN n) = r ∧ w = w1) 0 0 := by
  refine XM.of (cc := cJ0_indexOf_7cf53) (maxL := 3) (ret := (some .int)) (by decide) rfl (Nat.le_of_ble_eq_true rfl) ?_
  intro p e s m below meth c hx hb hr hlk hin0 hml hown hts hN hw hG hS ls hl
  have hown : s.vm.findClass RJ0 = some m.cls := hown
  have hlnk0 := hts (.fieldLink RJ0 9 "java/lang/String" "value" "[B") (by decide +kernel)
  have hl : lh ls 3 [some (.ref G.2.2.2.2.2.1), some (.int (nI n)), some (.int (nI 0))] := hl
  refine xaload_n hx hb dJ0_indexOf_7cf53_0 hl rfl ?_
  refine xVsi ⟨hx, hb, hml, hown, hts⟩ (kJ0_isLatin1_aae02 l N0 G w) (cwV 0 hts gJ0_indexOf_7cf53_J0_isLatin1_aae02 rfl rfl rfl (by decide +kernel) ⟨Nat.le_of_ble_eq_true rfl, Nat.le_of_ble_eq_true rfl⟩) hG hN hw hS rfl hl.1 rfl (Nat.le_of_ble_eq_true rfl) dJ0_indexOf_7cf53_1 ⟨Nat.le_of_ble_eq_true rfl, Nat.le_of_ble_eq_true rfl⟩ (fun r1 w1 H locs hp1 hw hS => ?_)
  obtain ⟨rfl, rfl⟩ := hp1
  first | refine xifb_eq (tgt := 23) hx hb dJ0_indexOf_7cf53_4 (by decide) (fun c4 => ?_) (fun c4 => ?_) | refine xif_eq (tgt := 23) hx hb dJ0_indexOf_7cf53_4 (by decide) (by omega) (fun c4 => ?_) (fun c4 => ?_) | refine lv_if_eq (tgt := 23) hx hb dJ0_indexOf_7cf53_4 (by decide) (fun c4 => ?_) (fun c4 => ?_)
  · skip
    exfalso
    cases c4
  · skip
    refine xaload_n hx hb dJ0_indexOf_7cf53_7 hl rfl ?_
    refine vk_getf hx hb hN.2.2.2.2.1 hS hown hlnk0 (fun _ h9 => h9) dJ0_indexOf_7cf53_8 ?_
    refine xiload_n hx hb dJ0_indexOf_7cf53_11 hl rfl ?_
    refine xiload_n hx hb dJ0_indexOf_7cf53_12 hl rfl ?_
    refine xaload_n hx hb dJ0_indexOf_7cf53_13 hl rfl ?_
    refine xVsi ⟨hx, hb, hml, hown, hts⟩ (kJ0_length_8abf5 l N0 G w) (cwV 0 hts gJ0_indexOf_7cf53_J0_length_8abf5 rfl rfl rfl (by decide +kernel) ⟨Nat.le_of_ble_eq_true rfl, Nat.le_of_ble_eq_true rfl⟩) hG hN hw hS rfl hl.1 rfl (Nat.le_of_ble_eq_true rfl) dJ0_indexOf_7cf53_14 ⟨Nat.le_of_ble_eq_true rfl, Nat.le_of_ble_eq_true rfl⟩ (fun r14 w14 H locs hp14 hw hS => ?_)
    obtain ⟨rfl, rfl⟩ := hp14
    refine xSi ⟨hx, hb, hml, hown, hts⟩ (kJ1_indexOf_4cfef l N0 G _ n hn) (va_cwS 4 hts gJ0_indexOf_7cf53_J1_indexOf_4cfef rfl rfl rfl (by decide +kernel) ⟨Nat.le_of_ble_eq_true rfl, Nat.le_of_ble_eq_true rfl⟩) hG hN hw hS rfl hl.1 rfl (Nat.le_of_ble_eq_true rfl) dJ0_indexOf_7cf53_17 ⟨Nat.le_of_ble_eq_true rfl, Nat.le_of_ble_eq_true rfl⟩ (fun r17 w17 H locs hp17 hw hS => ?_)
    obtain ⟨rfl, rfl⟩ := hp17
    refine lv_goto (tgt := 36) hx hb dJ0_indexOf_7cf53_20 (by decide) ?_
    exact xiret hx hb hr hlk hw hS dJ0_indexOf_7cf53_36 ⟨rfl, rfl⟩
set_option maxHeartbeats 4000000 in
set_option maxRecDepth 100000 in
theorem kJ0_indexOf_0f7a4 (l : Launch) (N0 : Nat) (G : XG) (w : Wd) (n : Nat) (hn : n < 128) : XM l yJ0_indexOf_0f7a4 wsJ0_indexOf_0f7a4 (rmD 4) N0 G [.ref G.2.2.2.2.2.1, .int (nI n)] w vI (fun r w1 => oI (kN n) = r ∧ w = w1) 0 0 := by
  refine XM.of (cc := cJ0_indexOf_0f7a4) (maxL := 2) (ret := (some .int)) (by decide) rfl (Nat.le_of_ble_eq_true rfl) ?_
  intro p e s m below meth c hx hb hr hlk hin0 hml hown hts hN hw hG hS ls hl
  have hown : s.vm.findClass RJ0 = some m.cls := hown
  have hl : lh ls 2 [some (.ref G.2.2.2.2.2.1), some (.int (nI n))] := hl
  refine xaload_n hx hb dJ0_indexOf_0f7a4_0 hl rfl ?_
  refine xiload_n hx hb dJ0_indexOf_0f7a4_1 hl rfl ?_
  refine lv_iconst (v := nI 0) hx hb dJ0_indexOf_0f7a4_2 (by decide) ?_
  refine xVsi ⟨hx, hb, hml, hown, hts⟩ (kJ0_indexOf_7cf53 l N0 G w n hn) (cwV 2 hts gJ0_indexOf_0f7a4_J0_indexOf_7cf53 rfl rfl rfl (by decide +kernel) ⟨Nat.le_of_ble_eq_true rfl, Nat.le_of_ble_eq_true rfl⟩) hG hN hw hS rfl hl.1 rfl (Nat.le_of_ble_eq_true rfl) dJ0_indexOf_0f7a4_3 ⟨Nat.le_of_ble_eq_true rfl, Nat.le_of_ble_eq_true rfl⟩ (fun r3 w3 H locs hp3 hw hS => ?_)
  obtain ⟨rfl, rfl⟩ := hp3
  exact xiret hx hb hr hlk hw hS dJ0_indexOf_0f7a4_6 ⟨rfl, rfl⟩
set_option maxHeartbeats 4000000 in
set_option maxRecDepth 100000 in
theorem kX5_size (l : Launch) (N0 : Nat) (G : XG) (w : Wd) (p0 : Nat) (pg : List Nat) (hP : RPage G w p0 pg) : XM l yX5_size wsX5_size (rmD 1) N0 G [.ref p0] w vI (fun r w1 => nI pg.length = r ∧ w = w1) 0 0 := by
  refine XM.of (cc := cX5_size) (maxL := 1) (ret := (some .int)) (by decide) rfl (Nat.le_of_ble_eq_true rfl) ?_
  intro p e s m below meth c hx hb hr hlk hin0 hml hown hts hN hw hG hS ls hl
  have hown : s.vm.findClass RX5 = some m.cls := hown
  have hiX5 : ∀ x ∈ u_ws RX5 TX5 2, x ∈ wsX5_size := by decide +kernel
  have hlnk0 := hts (.fieldLink RX5 15 "LentQuill$Page" "size" "I") (by decide +kernel)
  have hl : lh ls 1 [some (.ref p0)] := hl
  obtain ⟨f, hp0, hp1, h18, hf, hch⟩ := id hP
  refine xaload_n hx hb dX5_size_0 hl rfl ?_
  refine xget (C := RX5) (T := TX5) (N := 2) hx hb (ci := 5) hts hiX5 hown hG hw (by repeat first | assumption | exact wu_eq _ _ _ | refine wu_ne (by omega) ?_) rfl 1 (by decide) hlnk0 (fun _ h9 => h9) rfl dX5_size_1 ?_
  exact xiret hx hb hr hlk hw hS dX5_size_4 ⟨rfl, rfl⟩
set_option maxHeartbeats 4000000 in
set_option maxRecDepth 100000 in
theorem kX5_codeAt (l : Launch) (N0 : Nat) (G : XG) (w : Wd) (p0 : Nat) (pg : List Nat) (hP : RPage G w p0 pg) (i : Nat) (hi : i < 100) : XM l yX5_codeAt wsX5_codeAt (rmD 1) N0 G [.ref p0, .int (nI i)] w vI (fun r w1 => nI (pgc pg i) = r ∧ w = w1) 0 0 := by
  refine XM.of (cc := cX5_codeAt) (maxL := 2) (ret := (some .int)) (by decide) rfl (Nat.le_of_ble_eq_true rfl) ?_
  intro p e s m below meth c hx hb hr hlk hin0 hml hown hts hN hw hG hS ls hl
  have hown : s.vm.findClass RX5 = some m.cls := hown
  have hiX5 : ∀ x ∈ u_ws RX5 TX5 2, x ∈ wsX5_codeAt := by decide +kernel
  have hlnk0 := hts (.fieldLink RX5 15 "LentQuill$Page" "size" "I") (by decide +kernel)
  have hlnk1 := hts (.fieldLink RX5 9 "LentQuill$Page" "codes" "[I") (by decide +kernel)
  have hl : lh ls 2 [some (.ref p0), some (.int (nI i))] := hl
  obtain ⟨f, hp0, hp1, h18, hf, hch⟩ := id hP
  refine xiload_n hx hb dX5_codeAt_0 hl rfl ?_
  refine xif_lt (tgt := 21) hx hb dX5_codeAt_1 (by decide) (by omega) ?_
  refine xiload_n hx hb dX5_codeAt_4 hl rfl ?_
  refine xaload_n hx hb dX5_codeAt_5 hl rfl ?_
  refine xget (C := RX5) (T := TX5) (N := 2) hx hb (ci := 5) hts hiX5 hown hG hw (by repeat first | assumption | exact wu_eq _ _ _ | refine wu_ne (by omega) ?_) rfl 1 (by decide) hlnk0 (fun _ h9 => h9) rfl dX5_codeAt_6 ?_
  first | refine xcmp_ge (tgt := 21) hx hb dX5_codeAt_9 (by decide) (by omega) (by omega) (fun c9 => ?_) (fun c9 => ?_) | refine lv_icmp_ge (tgt := 21) hx hb dX5_codeAt_9 (by decide) (fun c9 => ?_) (fun c9 => ?_)
  · skip
    refine lv_iconst (v := nI 0) hx hb dX5_codeAt_21 (by decide) ?_
    refine lv_goto (tgt := 31) hx hb dX5_codeAt_22 (by decide) ?_
    exact xiret hx hb hr hlk hw hS dX5_codeAt_31 ⟨by first | exact (hf i c9).symm | rw [pgc_out c9], rfl⟩
  · skip
    refine xiload_n hx hb dX5_codeAt_12 hl rfl ?_
    refine xaload_n hx hb dX5_codeAt_13 hl rfl ?_
    refine xget (C := RX5) (T := TX5) (N := 2) hx hb (ci := 5) hts hiX5 hown hG hw (by repeat first | assumption | exact wu_eq _ _ _ | refine wu_ne (by omega) ?_) rfl 0 (by decide) hlnk1 (fun _ h9 => h9) rfl dX5_codeAt_14 ?_
    first | refine xalenI hx hb hG hw (by repeat first | assumption | exact wu_eq _ _ _ | refine wu_ne (by omega) ?_) dX5_codeAt_17 ?_ | refine xalenP hx hb hG hw (by repeat first | assumption | exact wu_eq _ _ _ | refine wu_ne (by omega) ?_) dX5_codeAt_17 ?_ | refine xalenN hx hb hG hw (by repeat first | assumption | exact wu_eq _ _ _ | refine wu_ne (by omega) ?_) dX5_codeAt_17 ?_
    first | refine xcmp_lt (tgt := 25) hx hb dX5_codeAt_18 (by decide) (by omega) (by omega) (fun c18 => ?_) (fun c18 => ?_) | refine lv_icmp_lt (tgt := 25) hx hb dX5_codeAt_18 (by decide) (fun c18 => ?_) (fun c18 => ?_)
    · skip
      refine xaload_n hx hb dX5_codeAt_25 hl rfl ?_
      refine xget (C := RX5) (T := TX5) (N := 2) hx hb (ci := 5) hts hiX5 hown hG hw (by repeat first | assumption | exact wu_eq _ _ _ | refine wu_ne (by omega) ?_) rfl 0 (by decide) hlnk1 (fun _ h9 => h9) rfl dX5_codeAt_26 ?_
      refine xiload_n hx hb dX5_codeAt_29 hl rfl ?_
      refine xiald hx hb hG hw (by repeat first | assumption | exact wu_eq _ _ _ | refine wu_ne (by omega) ?_) (by omega) (by omega) dX5_codeAt_30 ?_
      exact xiret hx hb hr hlk hw hS dX5_codeAt_31 ⟨by first | exact (hf i c9).symm | rw [pgc_out c9], rfl⟩
    · skip
      exfalso
      omega
set_option maxHeartbeats 4000000 in
set_option maxRecDepth 100000 in
theorem kX5_add (l : Launch) (N0 : Nat) (G : XG) (w : Wd) (p0 : Nat) (pg : List Nat) (hP : RPage G w p0 pg) (c0 : Nat) (hc : 32 ≤ c0 ∧ c0 ≤ 126) (hlt : pg.length < 18) : XM l yX5_add wsX5_add (rmD 1) N0 G [.ref p0, .int (nI c0)] w vI (fun r w1 => bI true = r ∧ RPage G w1 p0 (pg ++ [c0]) ∧ Out w w1 p0 (p0 + 2)) 0 0 := by
  refine XM.of (cc := cX5_add) (maxL := 2) (ret := (some .boolean)) (by decide) rfl (Nat.le_of_ble_eq_true rfl) ?_
  intro p e s m below meth c hx hb hr hlk hin0 hml hown hts hN hw hG hS ls hl
  have hown : s.vm.findClass RX5 = some m.cls := hown
  have hiX5 : ∀ x ∈ u_ws RX5 TX5 2, x ∈ wsX5_add := by decide +kernel
  have hlnk0 := hts (.fieldLink RX5 15 "LentQuill$Page" "size" "I") (by decide +kernel)
  have hlnk1 := hts (.fieldLink RX5 9 "LentQuill$Page" "codes" "[I") (by decide +kernel)
  have hl : lh ls 2 [some (.ref p0), some (.int (nI c0))] := hl
  obtain ⟨f, hp0, hp1, h18, hf, hch⟩ := id hP
  refine xaload_n hx hb dX5_add_0 hl rfl ?_
  refine xget (C := RX5) (T := TX5) (N := 2) hx hb (ci := 5) hts hiX5 hown hG hw (by repeat first | assumption | exact wu_eq _ _ _ | refine wu_ne (by omega) ?_) rfl 1 (by decide) hlnk0 (fun _ h9 => h9) rfl dX5_add_1 ?_
  refine xaload_n hx hb dX5_add_4 hl rfl ?_
  refine xget (C := RX5) (T := TX5) (N := 2) hx hb (ci := 5) hts hiX5 hown hG hw (by repeat first | assumption | exact wu_eq _ _ _ | refine wu_ne (by omega) ?_) rfl 0 (by decide) hlnk1 (fun _ h9 => h9) rfl dX5_add_5 ?_
  first | refine xalenI hx hb hG hw (by repeat first | assumption | exact wu_eq _ _ _ | refine wu_ne (by omega) ?_) dX5_add_8 ?_ | refine xalenP hx hb hG hw (by repeat first | assumption | exact wu_eq _ _ _ | refine wu_ne (by omega) ?_) dX5_add_8 ?_ | refine xalenN hx hb hG hw (by repeat first | assumption | exact wu_eq _ _ _ | refine wu_ne (by omega) ?_) dX5_add_8 ?_
  first | refine xcmp_lt (tgt := 14) hx hb dX5_add_9 (by decide) (by omega) (by omega) (fun c9 => ?_) (fun c9 => ?_) | refine lv_icmp_lt (tgt := 14) hx hb dX5_add_9 (by decide) (fun c9 => ?_) (fun c9 => ?_)
  · skip
    refine xaload_n hx hb dX5_add_14 hl rfl ?_
    refine xget (C := RX5) (T := TX5) (N := 2) hx hb (ci := 5) hts hiX5 hown hG hw (by repeat first | assumption | exact wu_eq _ _ _ | refine wu_ne (by omega) ?_) rfl 0 (by decide) hlnk1 (fun _ h9 => h9) rfl dX5_add_15 ?_
    refine xaload_n hx hb dX5_add_18 hl rfl ?_
    refine xget (C := RX5) (T := TX5) (N := 2) hx hb (ci := 5) hts hiX5 hown hG hw (by repeat first | assumption | exact wu_eq _ _ _ | refine wu_ne (by omega) ?_) rfl 1 (by decide) hlnk0 (fun _ h9 => h9) rfl dX5_add_19 ?_
    refine xiload_n hx hb dX5_add_22 hl rfl ?_
    refine xiast hx hb hG hw hS (by repeat first | assumption | exact wu_eq _ _ _ | refine wu_ne (by omega) ?_) (by omega) (by omega) dX5_add_23 (fun H locs hzz hw hS => ?_)
    refine xaload_n hx hb dX5_add_24 hl rfl ?_
    refine lv_dup hx hb dX5_add_25 rfl ?_
    refine xget (C := RX5) (T := TX5) (N := 2) hx hb (ci := 5) hts hiX5 hown hG hw (by repeat first | assumption | exact wu_eq _ _ _ | refine wu_ne (by omega) ?_) rfl 1 (by decide) hlnk0 (fun _ h9 => h9) rfl dX5_add_26 ?_
    refine lv_iconst (v := nI 1) hx hb dX5_add_29 (by decide) ?_
    first | refine xadd hx hb dX5_add_30 ?_ | refine lv_iadd hx hb dX5_add_30 ?_
    refine xput (C := RX5) (T := TX5) (N := 2) hx hb (ci := 5) (ty := .int) hts hiX5 tyX5 tyX5_ok nmX5 hown hG hw hS (by repeat first | assumption | exact wu_eq _ _ _ | refine wu_ne (by omega) ?_) rfl 1 (by decide) hlnk0 (fun _ h9 => h9) rfl (by decide +kernel) rfl rfl (Nat.le_of_ble_eq_true rfl) dX5_add_31 (fun H locs hzz hw hS => ?_)
    refine lv_iconst (v := nI 1) hx hb dX5_add_34 (by decide) ?_
    first | exact xzret hx hb hr hlk hw hS dX5_add_35 true rfl ⟨rfl, add_rep hP hp1 hf hlt hc, (Out.rf.wu (by omega) (by omega)).wu (by omega) (by omega)⟩ | exact xzret hx hb hr hlk hw hS dX5_add_35 false rfl ⟨rfl, hP, Out.rf⟩
  · skip
    exfalso
    omega
set_option maxHeartbeats 4000000 in
set_option maxRecDepth 100000 in
theorem kX5_add_full (l : Launch) (N0 : Nat) (G : XG) (w : Wd) (p0 : Nat) (pg : List Nat) (hP : RPage G w p0 pg) (c0 : Nat) (hlt : 18 ≤ pg.length) : XM l yX5_add wsX5_add (rmD 1) N0 G [.ref p0, .int (nI c0)] w vI (fun r w1 => bI false = r ∧ w = w1) 0 0 := by
  refine XM.of (cc := cX5_add) (maxL := 2) (ret := (some .boolean)) (by decide) rfl (Nat.le_of_ble_eq_true rfl) ?_
  intro p e s m below meth c hx hb hr hlk hin0 hml hown hts hN hw hG hS ls hl
  have hown : s.vm.findClass RX5 = some m.cls := hown
  have hiX5 : ∀ x ∈ u_ws RX5 TX5 2, x ∈ wsX5_add := by decide +kernel
  have hlnk0 := hts (.fieldLink RX5 15 "LentQuill$Page" "size" "I") (by decide +kernel)
  have hlnk1 := hts (.fieldLink RX5 9 "LentQuill$Page" "codes" "[I") (by decide +kernel)
  have hl : lh ls 2 [some (.ref p0), some (.int (nI c0))] := hl
  obtain ⟨f, hp0, hp1, h18, hf, hch⟩ := id hP
  refine xaload_n hx hb dX5_add_0 hl rfl ?_
  refine xget (C := RX5) (T := TX5) (N := 2) hx hb (ci := 5) hts hiX5 hown hG hw (by repeat first | assumption | exact wu_eq _ _ _ | refine wu_ne (by omega) ?_) rfl 1 (by decide) hlnk0 (fun _ h9 => h9) rfl dX5_add_1 ?_
  refine xaload_n hx hb dX5_add_4 hl rfl ?_
  refine xget (C := RX5) (T := TX5) (N := 2) hx hb (ci := 5) hts hiX5 hown hG hw (by repeat first | assumption | exact wu_eq _ _ _ | refine wu_ne (by omega) ?_) rfl 0 (by decide) hlnk1 (fun _ h9 => h9) rfl dX5_add_5 ?_
  first | refine xalenI hx hb hG hw (by repeat first | assumption | exact wu_eq _ _ _ | refine wu_ne (by omega) ?_) dX5_add_8 ?_ | refine xalenP hx hb hG hw (by repeat first | assumption | exact wu_eq _ _ _ | refine wu_ne (by omega) ?_) dX5_add_8 ?_ | refine xalenN hx hb hG hw (by repeat first | assumption | exact wu_eq _ _ _ | refine wu_ne (by omega) ?_) dX5_add_8 ?_
  first | refine xcmp_lt (tgt := 14) hx hb dX5_add_9 (by decide) (by omega) (by omega) (fun c9 => ?_) (fun c9 => ?_) | refine lv_icmp_lt (tgt := 14) hx hb dX5_add_9 (by decide) (fun c9 => ?_) (fun c9 => ?_)
  · skip
    exfalso
    omega
  · skip
    refine lv_iconst (v := nI 0) hx hb dX5_add_12 (by decide) ?_
    first | exact xzret hx hb hr hlk hw hS dX5_add_13 true rfl ⟨rfl, rfl⟩ | exact xzret hx hb hr hlk hw hS dX5_add_13 false rfl ⟨rfl, rfl⟩
set_option maxHeartbeats 4000000 in
set_option maxRecDepth 100000 in
theorem kX5_clear (l : Launch) (N0 : Nat) (G : XG) (w : Wd) (p0 : Nat) (pg : List Nat) (hP : RPage G w p0 pg) : XM l yX5_clear wsX5_clear (rmD 1) N0 G [.ref p0] w vV (fun _ w1 => RPage G w1 p0 [] ∧ Out w w1 p0 (p0 + 2)) 0 0 := by
  refine XM.of (cc := cX5_clear) (maxL := 1) (ret := none) (by decide) rfl (Nat.le_of_ble_eq_true rfl) ?_
  intro p e s m below meth c hx hb hr hlk hin0 hml hown hts hN hw hG hS ls hl
  have hown : s.vm.findClass RX5 = some m.cls := hown
  have hiX5 : ∀ x ∈ u_ws RX5 TX5 2, x ∈ wsX5_clear := by decide +kernel
  have hlnk0 := hts (.fieldLink RX5 15 "LentQuill$Page" "size" "I") (by decide +kernel)
  have hl : lh ls 1 [some (.ref p0)] := hl
  obtain ⟨f, hp0, hp1, h18, hf, hch⟩ := id hP
  refine xaload_n hx hb dX5_clear_0 hl rfl ?_
  refine lv_iconst (v := nI 0) hx hb dX5_clear_1 (by decide) ?_
  refine xput (C := RX5) (T := TX5) (N := 2) hx hb (ci := 5) (ty := .int) hts hiX5 tyX5 tyX5_ok nmX5 hown hG hw hS (by repeat first | assumption | exact wu_eq _ _ _ | refine wu_ne (by omega) ?_) rfl 1 (by decide) hlnk0 (fun _ h9 => h9) rfl (by decide +kernel) rfl rfl (Nat.le_of_ble_eq_true rfl) dX5_clear_2 (fun H locs hzz hw hS => ?_)
  exact xvret hx hb hr hlk hw hS dX5_clear_5 ⟨pclear_rep hP, Out.rf.wu (by omega) (by omega)⟩
set_option maxHeartbeats 4000000 in
set_option maxRecDepth 100000 in
theorem kX5_isLimit (l : Launch) (N0 : Nat) (G : XG) (w : Wd) (c0 : Nat) (hc : c0 ≤ 126) : XM l yX5_isLimit wsX5_isLimit (rmD 1) N0 G [.int (nI c0)] w vI (fun r w1 => bI (isLim c0) = r ∧ w = w1) 0 0 := by
  refine XM.of (cc := cX5_isLimit) (maxL := 1) (ret := (some .boolean)) (by decide) rfl (Nat.le_of_ble_eq_true rfl) ?_
  intro p e s m below meth c hx hb hr hlk hin0 hml hown hts hN hw hG hS ls hl
  have hown : s.vm.findClass RX5 = some m.cls := hown
  have hl : lh ls 1 [some (.int (nI c0))] := hl
  refine xiload_n hx hb dX5_isLimit_0 hl rfl ?_
  refine lv_bipush (v := nI 49) hx hb dX5_isLimit_1 (by decide) ?_
  first | refine xcmp_lt (tgt := 16) hx hb dX5_isLimit_3 (by decide) (by omega) (by omega) (fun c3 => ?_) (fun c3 => ?_) | refine lv_icmp_lt (tgt := 16) hx hb dX5_isLimit_3 (by decide) (fun c3 => ?_) (fun c3 => ?_)
  · skip
    refine lv_iconst (v := nI 0) hx hb dX5_isLimit_16 (by decide) ?_
    first | exact xzret hx hb hr hlk hw hS dX5_isLimit_17 true rfl ⟨congrArg bI (decide_eq_true (by omega)), rfl⟩ | exact xzret hx hb hr hlk hw hS dX5_isLimit_17 false rfl ⟨congrArg bI (decide_eq_false (by omega)), rfl⟩
  · skip
    refine xiload_n hx hb dX5_isLimit_6 hl rfl ?_
    refine lv_bipush (v := nI 53) hx hb dX5_isLimit_7 (by decide) ?_
    first | refine xcmp_gt (tgt := 16) hx hb dX5_isLimit_9 (by decide) (by omega) (by omega) (fun c9 => ?_) (fun c9 => ?_) | refine lv_icmp_gt (tgt := 16) hx hb dX5_isLimit_9 (by decide) (fun c9 => ?_) (fun c9 => ?_)
    · skip
      refine lv_iconst (v := nI 0) hx hb dX5_isLimit_16 (by decide) ?_
      first | exact xzret hx hb hr hlk hw hS dX5_isLimit_17 true rfl ⟨congrArg bI (decide_eq_true (by omega)), rfl⟩ | exact xzret hx hb hr hlk hw hS dX5_isLimit_17 false rfl ⟨congrArg bI (decide_eq_false (by omega)), rfl⟩
    · skip
      refine lv_iconst (v := nI 1) hx hb dX5_isLimit_12 (by decide) ?_
      refine lv_goto (tgt := 17) hx hb dX5_isLimit_13 (by decide) ?_
      first | exact xzret hx hb hr hlk hw hS dX5_isLimit_17 true rfl ⟨congrArg bI (decide_eq_true (by omega)), rfl⟩ | exact xzret hx hb hr hlk hw hS dX5_isLimit_17 false rfl ⟨congrArg bI (decide_eq_false (by omega)), rfl⟩
set_option maxHeartbeats 4000000 in
set_option maxRecDepth 100000 in
theorem kX5_fitsPeople (l : Launch) (N0 : Nat) (G : XG) (w : Wd) (p0 : Nat) (pg : List Nat) (hP : RPage G w p0 pg) (i : Nat) (hi : i < 18) : XM l yX5_fitsPeople wsX5_fitsPeople (rmD 5) N0 G [.ref p0, .int (nI i)] w vI (fun r w1 => bI (fitP pg i) = r ∧ w = w1) 0 0 := by
  refine XM.of (cc := cX5_fitsPeople) (maxL := 4) (ret := (some .boolean)) (by decide) rfl (Nat.le_of_ble_eq_true rfl) ?_
  intro p e s m below meth c hx hb hr hlk hin0 hml hown hts hN hw hG hS ls hl
  have hown : s.vm.findClass RX5 = some m.cls := hown
  have hl : lh ls 4 [some (.ref p0), some (.int (nI i)), none, none] := hl
  obtain ⟨f, hp0, hp1, h18, hf, hch⟩ := id hP
  have hc126 := pgc_126 hP i
  refine xaload_n hx hb dX5_fitsPeople_0 hl rfl ?_
  refine xiload_n hx hb dX5_fitsPeople_1 hl rfl ?_
  refine xVi ⟨hx, hb, hml, hown, hts⟩ (kX5_codeAt l N0 G _ _ pg hP i (by omega)) (cwV 1 hts gX5_fitsPeople_X5_codeAt rfl rfl rfl (by decide +kernel) ⟨Nat.le_of_ble_eq_true rfl, Nat.le_of_ble_eq_true rfl⟩) hG hN hw hS (ci := 5) (by repeat first | assumption | exact wu_eq _ _ _ | refine wu_ne (by omega) ?_) rfl rfl hl.1 rfl (Nat.le_of_ble_eq_true rfl) dX5_fitsPeople_2 ⟨Nat.le_of_ble_eq_true rfl, Nat.le_of_ble_eq_true rfl⟩ (fun r2 w2 H locs hp2 hw hS => ?_)
  obtain ⟨rfl, rfl⟩ := hp2
  refine xistore_n hx hb dX5_fitsPeople_5 hl (by decide) rfl (fun ls hl => ?_)
  refine xiload_n hx hb dX5_fitsPeople_6 hl rfl ?_
  refine lv_iconst (v := nI 3) hx hb dX5_fitsPeople_7 (by decide) ?_
  refine xdiv hx hb dX5_fitsPeople_8 (by omega) (by omega) (by omega) ?_
  refine lv_iconst (v := nI 1) hx hb dX5_fitsPeople_9 (by decide) ?_
  first | refine xadd hx hb dX5_fitsPeople_10 ?_ | refine lv_iadd hx hb dX5_fitsPeople_10 ?_
  refine xistore_n hx hb dX5_fitsPeople_11 hl (by decide) rfl (fun ls hl => ?_)
  refine xiload_n hx hb dX5_fitsPeople_12 hl rfl ?_
  refine lv_iconst (v := nI 3) hx hb dX5_fitsPeople_13 (by decide) ?_
  refine xrem hx hb dX5_fitsPeople_14 (by omega) (by omega) (by omega) ?_
  rcases (show i % 3 = 0 ∨ i % 3 = 1 ∨ i % 3 = 2 by omega) with h3 | h3 | h3
  · skip
    refine xtop (y := nI 0) (by rw [h3]) ?_
    refine lv_lookup (off := 25) (tgt := 40) hx hb dX5_fitsPeople_15 (by decide) (by decide) (by decide) ?_
    refine va_ldcS hx hb hown hN.2.1.1 dX5_fitsPeople_40 ?_
    refine xiload_n hx hb dX5_fitsPeople_42 hl rfl ?_
    refine lv_i2c (v := nI (pgc pg i)) hx hb dX5_fitsPeople_43 (nI_i2c (by omega)) ?_
    refine xVsi ⟨hx, hb, hml, hown, hts⟩ (kJ0_indexOf_0f7a4 l N0 G w (pgc pg i) (by omega)) (cwV 1 hts gX5_fitsPeople_J0_indexOf_0f7a4 rfl rfl rfl (by decide +kernel) ⟨Nat.le_of_ble_eq_true rfl, Nat.le_of_ble_eq_true rfl⟩) hG hN hw hS rfl hl.1 rfl (Nat.le_of_ble_eq_true rfl) dX5_fitsPeople_44 ⟨Nat.le_of_ble_eq_true rfl, Nat.le_of_ble_eq_true rfl⟩ (fun r44 w44 H locs hp44 hw hS => ?_)
    obtain ⟨rfl, rfl⟩ := hp44
    refine lv_if_lt (tgt := 54) hx hb dX5_fitsPeople_47 (by decide) (fun c47 => ?_) (fun c47 => ?_)
    · skip
      refine lv_iconst (v := nI 0) hx hb dX5_fitsPeople_54 (by decide) ?_
      first | exact xzret hx hb hr hlk hw hS dX5_fitsPeople_55 true rfl ⟨congrArg bI (by unfold fitP; rw [if_pos h3]; exact oI_isS c47), rfl⟩ | exact xzret hx hb hr hlk hw hS dX5_fitsPeople_55 false rfl ⟨congrArg bI (by unfold fitP; rw [if_pos h3]; exact oI_isN c47), rfl⟩
    · skip
      refine lv_iconst (v := nI 1) hx hb dX5_fitsPeople_50 (by decide) ?_
      refine lv_goto (tgt := 55) hx hb dX5_fitsPeople_51 (by decide) ?_
      first | exact xzret hx hb hr hlk hw hS dX5_fitsPeople_55 true rfl ⟨congrArg bI (by unfold fitP; rw [if_pos h3]; exact oI_isS c47), rfl⟩ | exact xzret hx hb hr hlk hw hS dX5_fitsPeople_55 false rfl ⟨congrArg bI (by unfold fitP; rw [if_pos h3]; exact oI_isN c47), rfl⟩
  · skip
    refine xtop (y := nI 1) (by rw [h3]) ?_
    refine lv_lookup (off := 41) (tgt := 56) hx hb dX5_fitsPeople_15 (by decide) (by decide) (by decide) ?_
    refine xiload_n hx hb dX5_fitsPeople_56 hl rfl ?_
    refine lv_bipush (v := nI 48) hx hb dX5_fitsPeople_57 (by decide) ?_
    first | refine xcmp_lt (tgt := 72) hx hb dX5_fitsPeople_59 (by decide) (by omega) (by omega) (fun c59 => ?_) (fun c59 => ?_) | refine lv_icmp_lt (tgt := 72) hx hb dX5_fitsPeople_59 (by decide) (fun c59 => ?_) (fun c59 => ?_)
    · skip
      refine lv_iconst (v := nI 0) hx hb dX5_fitsPeople_72 (by decide) ?_
      first | exact xzret hx hb hr hlk hw hS dX5_fitsPeople_73 true rfl ⟨congrArg bI (by unfold fitP; rw [if_neg (by omega), if_pos h3]; exact decide_eq_true (by omega)), rfl⟩ | exact xzret hx hb hr hlk hw hS dX5_fitsPeople_73 false rfl ⟨congrArg bI (by unfold fitP; rw [if_neg (by omega), if_pos h3]; exact decide_eq_false (by omega)), rfl⟩
    · skip
      refine xiload_n hx hb dX5_fitsPeople_62 hl rfl ?_
      refine lv_bipush (v := nI 57) hx hb dX5_fitsPeople_63 (by decide) ?_
      first | refine xcmp_gt (tgt := 72) hx hb dX5_fitsPeople_65 (by decide) (by omega) (by omega) (fun c65 => ?_) (fun c65 => ?_) | refine lv_icmp_gt (tgt := 72) hx hb dX5_fitsPeople_65 (by decide) (fun c65 => ?_) (fun c65 => ?_)
      · skip
        refine lv_iconst (v := nI 0) hx hb dX5_fitsPeople_72 (by decide) ?_
        first | exact xzret hx hb hr hlk hw hS dX5_fitsPeople_73 true rfl ⟨congrArg bI (by unfold fitP; rw [if_neg (by omega), if_pos h3]; exact decide_eq_true (by omega)), rfl⟩ | exact xzret hx hb hr hlk hw hS dX5_fitsPeople_73 false rfl ⟨congrArg bI (by unfold fitP; rw [if_neg (by omega), if_pos h3]; exact decide_eq_false (by omega)), rfl⟩
      · skip
        refine lv_iconst (v := nI 1) hx hb dX5_fitsPeople_68 (by decide) ?_
        refine lv_goto (tgt := 73) hx hb dX5_fitsPeople_69 (by decide) ?_
        first | exact xzret hx hb hr hlk hw hS dX5_fitsPeople_73 true rfl ⟨congrArg bI (by unfold fitP; rw [if_neg (by omega), if_pos h3]; exact decide_eq_true (by omega)), rfl⟩ | exact xzret hx hb hr hlk hw hS dX5_fitsPeople_73 false rfl ⟨congrArg bI (by unfold fitP; rw [if_neg (by omega), if_pos h3]; exact decide_eq_false (by omega)), rfl⟩
  · skip
    refine xtop (y := nI 2) (by rw [h3]) ?_
    refine lv_lookup (off := 59) (tgt := 74) hx hb dX5_fitsPeople_15 (by decide) (by decide) (by decide) ?_
    refine xiload_n hx hb dX5_fitsPeople_74 hl rfl ?_
    refine lv_bipush (v := nI 44) hx hb dX5_fitsPeople_75 (by decide) ?_
    first | refine xcmp_ne (tgt := 85) hx hb dX5_fitsPeople_77 (by decide) (by omega) (by omega) (fun c77 => ?_) (fun c77 => ?_) | refine lv_icmp_ne (tgt := 85) hx hb dX5_fitsPeople_77 (by decide) (fun c77 => ?_) (fun c77 => ?_)
    · skip
      refine xiload_n hx hb dX5_fitsPeople_85 hl rfl ?_
      refine lv_bipush (v := nI 59) hx hb dX5_fitsPeople_86 (by decide) ?_
      first | refine xcmp_ne (tgt := 100) hx hb dX5_fitsPeople_88 (by decide) (by omega) (by omega) (fun c88 => ?_) (fun c88 => ?_) | refine lv_icmp_ne (tgt := 100) hx hb dX5_fitsPeople_88 (by decide) (fun c88 => ?_) (fun c88 => ?_)
      · skip
        refine lv_iconst (v := nI 0) hx hb dX5_fitsPeople_100 (by decide) ?_
        first | exact xzret hx hb hr hlk hw hS dX5_fitsPeople_101 true rfl ⟨congrArg bI (by unfold fitP; rw [if_neg (by omega), if_neg (by omega)]; exact decide_eq_true (by omega)), rfl⟩ | exact xzret hx hb hr hlk hw hS dX5_fitsPeople_101 false rfl ⟨congrArg bI (by unfold fitP; rw [if_neg (by omega), if_neg (by omega)]; exact decide_eq_false (by omega)), rfl⟩
      · skip
        refine xiload_n hx hb dX5_fitsPeople_91 hl rfl ?_
        refine lv_iconst (v := nI 2) hx hb dX5_fitsPeople_92 (by decide) ?_
        first | refine xcmp_lt (tgt := 100) hx hb dX5_fitsPeople_93 (by decide) (by omega) (by omega) (fun c93 => ?_) (fun c93 => ?_) | refine lv_icmp_lt (tgt := 100) hx hb dX5_fitsPeople_93 (by decide) (fun c93 => ?_) (fun c93 => ?_)
        · skip
          refine lv_iconst (v := nI 0) hx hb dX5_fitsPeople_100 (by decide) ?_
          first | exact xzret hx hb hr hlk hw hS dX5_fitsPeople_101 true rfl ⟨congrArg bI (by unfold fitP; rw [if_neg (by omega), if_neg (by omega)]; exact decide_eq_true (by omega)), rfl⟩ | exact xzret hx hb hr hlk hw hS dX5_fitsPeople_101 false rfl ⟨congrArg bI (by unfold fitP; rw [if_neg (by omega), if_neg (by omega)]; exact decide_eq_false (by omega)), rfl⟩
        · skip
          refine lv_iconst (v := nI 1) hx hb dX5_fitsPeople_96 (by decide) ?_
          refine lv_goto (tgt := 101) hx hb dX5_fitsPeople_97 (by decide) ?_
          first | exact xzret hx hb hr hlk hw hS dX5_fitsPeople_101 true rfl ⟨congrArg bI (by unfold fitP; rw [if_neg (by omega), if_neg (by omega)]; exact decide_eq_true (by omega)), rfl⟩ | exact xzret hx hb hr hlk hw hS dX5_fitsPeople_101 false rfl ⟨congrArg bI (by unfold fitP; rw [if_neg (by omega), if_neg (by omega)]; exact decide_eq_false (by omega)), rfl⟩
    · skip
      refine xiload_n hx hb dX5_fitsPeople_80 hl rfl ?_
      refine lv_iconst (v := nI 5) hx hb dX5_fitsPeople_81 (by decide) ?_
      first | refine xcmp_lt (tgt := 96) hx hb dX5_fitsPeople_82 (by decide) (by omega) (by omega) (fun c82 => ?_) (fun c82 => ?_) | refine lv_icmp_lt (tgt := 96) hx hb dX5_fitsPeople_82 (by decide) (fun c82 => ?_) (fun c82 => ?_)
      · skip
        refine lv_iconst (v := nI 1) hx hb dX5_fitsPeople_96 (by decide) ?_
        refine lv_goto (tgt := 101) hx hb dX5_fitsPeople_97 (by decide) ?_
        first | exact xzret hx hb hr hlk hw hS dX5_fitsPeople_101 true rfl ⟨congrArg bI (by unfold fitP; rw [if_neg (by omega), if_neg (by omega)]; exact decide_eq_true (by omega)), rfl⟩ | exact xzret hx hb hr hlk hw hS dX5_fitsPeople_101 false rfl ⟨congrArg bI (by unfold fitP; rw [if_neg (by omega), if_neg (by omega)]; exact decide_eq_false (by omega)), rfl⟩
      · skip
        refine xiload_n hx hb dX5_fitsPeople_85 hl rfl ?_
        refine lv_bipush (v := nI 59) hx hb dX5_fitsPeople_86 (by decide) ?_
        first | refine xcmp_ne (tgt := 100) hx hb dX5_fitsPeople_88 (by decide) (by omega) (by omega) (fun c88 => ?_) (fun c88 => ?_) | refine lv_icmp_ne (tgt := 100) hx hb dX5_fitsPeople_88 (by decide) (fun c88 => ?_) (fun c88 => ?_)
        · skip
          refine lv_iconst (v := nI 0) hx hb dX5_fitsPeople_100 (by decide) ?_
          first | exact xzret hx hb hr hlk hw hS dX5_fitsPeople_101 true rfl ⟨congrArg bI (by unfold fitP; rw [if_neg (by omega), if_neg (by omega)]; exact decide_eq_true (by omega)), rfl⟩ | exact xzret hx hb hr hlk hw hS dX5_fitsPeople_101 false rfl ⟨congrArg bI (by unfold fitP; rw [if_neg (by omega), if_neg (by omega)]; exact decide_eq_false (by omega)), rfl⟩
        · skip
          refine xiload_n hx hb dX5_fitsPeople_91 hl rfl ?_
          refine lv_iconst (v := nI 2) hx hb dX5_fitsPeople_92 (by decide) ?_
          first | refine xcmp_lt (tgt := 100) hx hb dX5_fitsPeople_93 (by decide) (by omega) (by omega) (fun c93 => ?_) (fun c93 => ?_) | refine lv_icmp_lt (tgt := 100) hx hb dX5_fitsPeople_93 (by decide) (fun c93 => ?_) (fun c93 => ?_)
          · skip
            refine lv_iconst (v := nI 0) hx hb dX5_fitsPeople_100 (by decide) ?_
            first | exact xzret hx hb hr hlk hw hS dX5_fitsPeople_101 true rfl ⟨congrArg bI (by unfold fitP; rw [if_neg (by omega), if_neg (by omega)]; exact decide_eq_true (by omega)), rfl⟩ | exact xzret hx hb hr hlk hw hS dX5_fitsPeople_101 false rfl ⟨congrArg bI (by unfold fitP; rw [if_neg (by omega), if_neg (by omega)]; exact decide_eq_false (by omega)), rfl⟩
          · skip
            refine lv_iconst (v := nI 1) hx hb dX5_fitsPeople_96 (by decide) ?_
            refine lv_goto (tgt := 101) hx hb dX5_fitsPeople_97 (by decide) ?_
            first | exact xzret hx hb hr hlk hw hS dX5_fitsPeople_101 true rfl ⟨congrArg bI (by unfold fitP; rw [if_neg (by omega), if_neg (by omega)]; exact decide_eq_true (by omega)), rfl⟩ | exact xzret hx hb hr hlk hw hS dX5_fitsPeople_101 false rfl ⟨congrArg bI (by unfold fitP; rw [if_neg (by omega), if_neg (by omega)]; exact decide_eq_false (by omega)), rfl⟩
set_option maxHeartbeats 4000000 in
set_option maxRecDepth 100000 in
theorem kX5_firstFault (l : Launch) (N0 : Nat) (G : XG) (w : Wd) (p0 : Nat) (pg : List Nat) (hP : RPage G w p0 pg) : XM l yX5_firstFault wsX5_firstFault (rmD 6) N0 G [.ref p0] w vI (fun r w1 => nI (ff pg pg.length 0) = r ∧ w = w1) 0 0 := by
  refine XM.of (cc := cX5_firstFault) (maxL := 3) (ret := (some .int)) (by decide) rfl (Nat.le_of_ble_eq_true rfl) ?_
  intro p e s m below meth c hx hb hr hlk hin0 hml hown hts hN hw hG hS ls hl
  have hown : s.vm.findClass RX5 = some m.cls := hown
  have hiX5 : ∀ x ∈ u_ws RX5 TX5 2, x ∈ wsX5_firstFault := by decide +kernel
  have hlnk0 := hts (.fieldLink RX5 15 "LentQuill$Page" "size" "I") (by decide +kernel)
  have hl : lh ls 3 [some (.ref p0), none, none] := hl
  obtain ⟨f, hp0, hp1, h18, hf, hch⟩ := id hP
  refine lv_iconst (v := nI 0) hx hb dX5_firstFault_0 (by decide) ?_
  refine xistore_n hx hb dX5_firstFault_1 hl (by decide) rfl (fun ls hl => ?_)
  refine lv_iconst (v := nI 0) hx hb dX5_firstFault_2 (by decide) ?_
  refine xistore_n hx hb dX5_firstFault_3 hl (by decide) rfl (fun ls hl => ?_)
  have loop4 : ∀ (nf : Nat) (i : Nat) (en : Bool) (H : Heap) (locs : List Loc) (ls : Array Slot), pg.length - i < nf → (i ≤ pg.length) → (en = false → ff pg pg.length 0 = ff pg (pg.length - i) i) → (en = true → ff pg pg.length 0 = (if i = pg.length then i else if isLim (pgc pg i) = true then i + 1 else i)) → PW N0 G w H → va_S (fun q => N0 ≤ q) s.heap H locs → lh ls 3 [some (.ref p0), some (.int (bI en)), some (.int (nI i))] → W p l e (rmD 6) s m ([.ref p0] : List Value).toArray below meth c H locs 0 0 (MQ below (XQ N0 G vI (fun r w1 => nI (ff pg pg.length 0) = r ∧ w = w1)) ([.ref p0] : List Value).toArray s 0 0 (fun q => N0 ≤ q)) (F0 m 4 ls []) := by
    intro nf
    induction nf with
    | zero => intros; omega
    | succ nf ih4 =>
      intro i en H locs ls hnf hi hen hen2 hw hS hl
      have hc126 := pgc_126 hP i
      refine xiload_n hx hb dX5_firstFault_4 hl rfl ?_
      refine xaload_n hx hb dX5_firstFault_5 hl rfl ?_
      refine xget (C := RX5) (T := TX5) (N := 2) hx hb (ci := 5) hts hiX5 hown hG hw (by repeat first | assumption | exact wu_eq _ _ _ | refine wu_ne (by omega) ?_) rfl 1 (by decide) hlnk0 (fun _ h9 => h9) rfl dX5_firstFault_6 ?_
      first | refine xcmp_ge (tgt := 67) hx hb dX5_firstFault_9 (by decide) (by omega) (by omega) (fun c9 => ?_) (fun c9 => ?_) | refine lv_icmp_ge (tgt := 67) hx hb dX5_firstFault_9 (by decide) (fun c9 => ?_) (fun c9 => ?_)
      · skip
        refine xaload_n hx hb dX5_firstFault_67 hl rfl ?_
        refine xget (C := RX5) (T := TX5) (N := 2) hx hb (ci := 5) hts hiX5 hown hG hw (by repeat first | assumption | exact wu_eq _ _ _ | refine wu_ne (by omega) ?_) rfl 1 (by decide) hlnk0 (fun _ h9 => h9) rfl dX5_firstFault_68 ?_
        exact xiret hx hb hr hlk hw hS dX5_firstFault_71 ⟨congrArg nI (ff_end hi c9 hen hen2), rfl⟩
      · skip
        refine xiload_n hx hb dX5_firstFault_12 hl rfl ?_
        first | refine xifb_eq (tgt := 35) hx hb dX5_firstFault_13 (by decide) (fun c13 => ?_) (fun c13 => ?_) | refine xif_eq (tgt := 35) hx hb dX5_firstFault_13 (by decide) (by omega) (fun c13 => ?_) (fun c13 => ?_) | refine lv_if_eq (tgt := 35) hx hb dX5_firstFault_13 (by decide) (fun c13 => ?_) (fun c13 => ?_)
        · skip
          refine xaload_n hx hb dX5_firstFault_35 hl rfl ?_
          refine xiload_n hx hb dX5_firstFault_36 hl rfl ?_
          refine xVi ⟨hx, hb, hml, hown, hts⟩ (kX5_fitsPeople l N0 G _ _ pg hP i (by omega)) (cwV 1 hts gX5_firstFault_X5_fitsPeople rfl rfl rfl (by decide +kernel) ⟨Nat.le_of_ble_eq_true rfl, Nat.le_of_ble_eq_true rfl⟩) hG hN hw hS (ci := 5) (by repeat first | assumption | exact wu_eq _ _ _ | refine wu_ne (by omega) ?_) rfl rfl hl.1 rfl (Nat.le_of_ble_eq_true rfl) dX5_firstFault_37 ⟨Nat.le_of_ble_eq_true rfl, Nat.le_of_ble_eq_true rfl⟩ (fun r37 w37 H locs hp37 hw hS => ?_)
          obtain ⟨rfl, rfl⟩ := hp37
          first | refine xifb_ne (tgt := 45) hx hb dX5_firstFault_40 (by decide) (fun c40 => ?_) (fun c40 => ?_) | refine xif_ne (tgt := 45) hx hb dX5_firstFault_40 (by decide) (by omega) (fun c40 => ?_) (fun c40 => ?_) | refine lv_if_ne (tgt := 45) hx hb dX5_firstFault_40 (by decide) (fun c40 => ?_) (fun c40 => ?_)
          · skip
            refine xaload_n hx hb dX5_firstFault_45 hl rfl ?_
            refine xiload_n hx hb dX5_firstFault_46 hl rfl ?_
            refine xVi ⟨hx, hb, hml, hown, hts⟩ (kX5_codeAt l N0 G _ _ pg hP i (by omega)) (cwV 1 hts gX5_firstFault_X5_codeAt rfl rfl rfl (by decide +kernel) ⟨Nat.le_of_ble_eq_true rfl, Nat.le_of_ble_eq_true rfl⟩) hG hN hw hS (ci := 5) (by repeat first | assumption | exact wu_eq _ _ _ | refine wu_ne (by omega) ?_) rfl rfl hl.1 rfl (Nat.le_of_ble_eq_true rfl) dX5_firstFault_47 ⟨Nat.le_of_ble_eq_true rfl, Nat.le_of_ble_eq_true rfl⟩ (fun r47 w47 H locs hp47 hw hS => ?_)
            obtain ⟨rfl, rfl⟩ := hp47
            refine lv_bipush (v := nI 59) hx hb dX5_firstFault_50 (by decide) ?_
            first | refine xcmp_ne (tgt := 59) hx hb dX5_firstFault_52 (by decide) (by omega) (by omega) (fun c52 => ?_) (fun c52 => ?_) | refine lv_icmp_ne (tgt := 59) hx hb dX5_firstFault_52 (by decide) (fun c52 => ?_) (fun c52 => ?_)
            · skip
              refine lv_iconst (v := nI 0) hx hb dX5_firstFault_59 (by decide) ?_
              refine xistore_n hx hb dX5_firstFault_60 hl (by decide) rfl (fun ls hl => ?_)
              first | refine xiincN hx hb 1 dX5_firstFault_61 hl rfl (by decide) (by decide) rfl (fun ls hl => ?_) | refine xiinc hx hb dX5_firstFault_61 hl rfl rfl (by decide) rfl (fun ls hl => ?_)
              refine lv_goto (tgt := 4) hx hb dX5_firstFault_64 (by decide) ?_
              have hst := ff_s1 (en := en) c9 (hen c13) c40
              exact ih4 (i + 1) (decide (pgc pg i = 59)) _ _ _ (by omega) (by omega) (fun h9 => (hst.1 (of_decide_eq_false h9))) (fun h9 => (hst.2 (of_decide_eq_true h9))) hw hS (by first | (rw [decide_eq_true c52]; exact hl) | (rw [decide_eq_false c52]; exact hl))
            · skip
              refine lv_iconst (v := nI 1) hx hb dX5_firstFault_55 (by decide) ?_
              refine lv_goto (tgt := 60) hx hb dX5_firstFault_56 (by decide) ?_
              refine xistore_n hx hb dX5_firstFault_60 hl (by decide) rfl (fun ls hl => ?_)
              first | refine xiincN hx hb 1 dX5_firstFault_61 hl rfl (by decide) (by decide) rfl (fun ls hl => ?_) | refine xiinc hx hb dX5_firstFault_61 hl rfl rfl (by decide) rfl (fun ls hl => ?_)
              refine lv_goto (tgt := 4) hx hb dX5_firstFault_64 (by decide) ?_
              have hst := ff_s1 (en := en) c9 (hen c13) c40
              exact ih4 (i + 1) (decide (pgc pg i = 59)) _ _ _ (by omega) (by omega) (fun h9 => (hst.1 (of_decide_eq_false h9))) (fun h9 => (hst.2 (of_decide_eq_true h9))) hw hS (by first | (rw [decide_eq_true c52]; exact hl) | (rw [decide_eq_false c52]; exact hl))
          · skip
            refine xiload_n hx hb dX5_firstFault_43 hl rfl ?_
            exact xiret hx hb hr hlk hw hS dX5_firstFault_44 ⟨congrArg nI (by rw [hen c13]; exact ff_no c9 c40), rfl⟩
        · skip
          refine xaload_n hx hb dX5_firstFault_16 hl rfl ?_
          refine xiload_n hx hb dX5_firstFault_17 hl rfl ?_
          refine xVi ⟨hx, hb, hml, hown, hts⟩ (kX5_codeAt l N0 G _ _ pg hP i (by omega)) (cwV 1 hts gX5_firstFault_X5_codeAt rfl rfl rfl (by decide +kernel) ⟨Nat.le_of_ble_eq_true rfl, Nat.le_of_ble_eq_true rfl⟩) hG hN hw hS (ci := 5) (by repeat first | assumption | exact wu_eq _ _ _ | refine wu_ne (by omega) ?_) rfl rfl hl.1 rfl (Nat.le_of_ble_eq_true rfl) dX5_firstFault_18 ⟨Nat.le_of_ble_eq_true rfl, Nat.le_of_ble_eq_true rfl⟩ (fun r18 w18 H locs hp18 hw hS => ?_)
          obtain ⟨rfl, rfl⟩ := hp18
          refine xSi ⟨hx, hb, hml, hown, hts⟩ (kX5_isLimit l N0 G _ (pgc pg i) hc126) (va_cwS 1 hts gX5_firstFault_X5_isLimit rfl rfl rfl (by decide +kernel) ⟨Nat.le_of_ble_eq_true rfl, Nat.le_of_ble_eq_true rfl⟩) hG hN hw hS rfl hl.1 rfl (Nat.le_of_ble_eq_true rfl) dX5_firstFault_21 ⟨Nat.le_of_ble_eq_true rfl, Nat.le_of_ble_eq_true rfl⟩ (fun r21 w21 H locs hp21 hw hS => ?_)
          obtain ⟨rfl, rfl⟩ := hp21
          first | refine xifb_eq (tgt := 33) hx hb dX5_firstFault_24 (by decide) (fun c24 => ?_) (fun c24 => ?_) | refine xif_eq (tgt := 33) hx hb dX5_firstFault_24 (by decide) (by omega) (fun c24 => ?_) (fun c24 => ?_) | refine lv_if_eq (tgt := 33) hx hb dX5_firstFault_24 (by decide) (fun c24 => ?_) (fun c24 => ?_)
          · skip
            refine xiload_n hx hb dX5_firstFault_33 hl rfl ?_
            exact xiret hx hb hr hlk hw hS dX5_firstFault_34 ⟨congrArg nI (by rw [hen2 c13, if_neg (by omega)]; first | rw [if_pos c24] | rw [if_neg (by rw [c24]; decide)]), rfl⟩
          · skip
            refine xiload_n hx hb dX5_firstFault_27 hl rfl ?_
            refine lv_iconst (v := nI 1) hx hb dX5_firstFault_28 (by decide) ?_
            first | refine xadd hx hb dX5_firstFault_29 ?_ | refine lv_iadd hx hb dX5_firstFault_29 ?_
            refine lv_goto (tgt := 34) hx hb dX5_firstFault_30 (by decide) ?_
            exact xiret hx hb hr hlk hw hS dX5_firstFault_34 ⟨congrArg nI (by rw [hen2 c13, if_neg (by omega)]; first | rw [if_pos c24] | rw [if_neg (by rw [c24]; decide)]), rfl⟩
  exact loop4 (pg.length + 1) 0 false _ _ _ (by omega) (by omega) (fun _ => rfl) (fun h => by cases h) hw hS hl
set_option maxHeartbeats 4000000 in
set_option maxRecDepth 100000 in
theorem kX5_isTown (l : Launch) (N0 : Nat) (G : XG) (w : Wd) (p0 : Nat) (pg : List Nat) (hP : RPage G w p0 pg) : XM l yX5_isTown wsX5_isTown (rmD 7) N0 G [.ref p0] w vI (fun r w1 => bI (isT pg) = r ∧ w = w1) 0 0 := by
  refine XM.of (cc := cX5_isTown) (maxL := 1) (ret := (some .boolean)) (by decide) rfl (Nat.le_of_ble_eq_true rfl) ?_
  intro p e s m below meth c hx hb hr hlk hin0 hml hown hts hN hw hG hS ls hl
  have hown : s.vm.findClass RX5 = some m.cls := hown
  have hiX5 : ∀ x ∈ u_ws RX5 TX5 2, x ∈ wsX5_isTown := by decide +kernel
  have hlnk0 := hts (.fieldLink RX5 15 "LentQuill$Page" "size" "I") (by decide +kernel)
  have hl : lh ls 1 [some (.ref p0)] := hl
  obtain ⟨f, hp0, hp1, h18, hf, hch⟩ := id hP
  have hfl := ff_le pg pg.length 0
  have hc126 := pgc_126 hP (pg.length - 2)
  refine xaload_n hx hb dX5_isTown_0 hl rfl ?_
  refine xget (C := RX5) (T := TX5) (N := 2) hx hb (ci := 5) hts hiX5 hown hG hw (by repeat first | assumption | exact wu_eq _ _ _ | refine wu_ne (by omega) ?_) rfl 1 (by decide) hlnk0 (fun _ h9 => h9) rfl dX5_isTown_1 ?_
  refine lv_iconst (v := nI 2) hx hb dX5_isTown_4 (by decide) ?_
  first | refine xcmp_lt (tgt := 38) hx hb dX5_isTown_5 (by decide) (by omega) (by omega) (fun c5 => ?_) (fun c5 => ?_) | refine lv_icmp_lt (tgt := 38) hx hb dX5_isTown_5 (by decide) (fun c5 => ?_) (fun c5 => ?_)
  · skip
    refine lv_iconst (v := nI 0) hx hb dX5_isTown_38 (by decide) ?_
    first | exact xzret hx hb hr hlk hw hS dX5_isTown_39 true rfl ⟨congrArg bI (decide_eq_true (by omega)), rfl⟩ | exact xzret hx hb hr hlk hw hS dX5_isTown_39 false rfl ⟨congrArg bI (decide_eq_false (by omega)), rfl⟩
  · skip
    refine xaload_n hx hb dX5_isTown_8 hl rfl ?_
    refine xaload_n hx hb dX5_isTown_9 hl rfl ?_
    refine xget (C := RX5) (T := TX5) (N := 2) hx hb (ci := 5) hts hiX5 hown hG hw (by repeat first | assumption | exact wu_eq _ _ _ | refine wu_ne (by omega) ?_) rfl 1 (by decide) hlnk0 (fun _ h9 => h9) rfl dX5_isTown_10 ?_
    refine lv_iconst (v := nI 2) hx hb dX5_isTown_13 (by decide) ?_
    first | refine xsub hx hb dX5_isTown_14 (by omega) ?_ | refine lv_isub hx hb dX5_isTown_14 ?_
    refine xVi ⟨hx, hb, hml, hown, hts⟩ (kX5_codeAt l N0 G _ _ pg hP (pg.length - 2) (by omega)) (cwV 1 hts gX5_isTown_X5_codeAt rfl rfl rfl (by decide +kernel) ⟨Nat.le_of_ble_eq_true rfl, Nat.le_of_ble_eq_true rfl⟩) hG hN hw hS (ci := 5) (by repeat first | assumption | exact wu_eq _ _ _ | refine wu_ne (by omega) ?_) rfl rfl hl.1 rfl (Nat.le_of_ble_eq_true rfl) dX5_isTown_15 ⟨Nat.le_of_ble_eq_true rfl, Nat.le_of_ble_eq_true rfl⟩ (fun r15 w15 H locs hp15 hw hS => ?_)
    obtain ⟨rfl, rfl⟩ := hp15
    refine lv_bipush (v := nI 59) hx hb dX5_isTown_18 (by decide) ?_
    first | refine xcmp_ne (tgt := 38) hx hb dX5_isTown_20 (by decide) (by omega) (by omega) (fun c20 => ?_) (fun c20 => ?_) | refine lv_icmp_ne (tgt := 38) hx hb dX5_isTown_20 (by decide) (fun c20 => ?_) (fun c20 => ?_)
    · skip
      refine lv_iconst (v := nI 0) hx hb dX5_isTown_38 (by decide) ?_
      first | exact xzret hx hb hr hlk hw hS dX5_isTown_39 true rfl ⟨congrArg bI (decide_eq_true (by omega)), rfl⟩ | exact xzret hx hb hr hlk hw hS dX5_isTown_39 false rfl ⟨congrArg bI (decide_eq_false (by omega)), rfl⟩
    · skip
      refine xaload_n hx hb dX5_isTown_23 hl rfl ?_
      refine xVi ⟨hx, hb, hml, hown, hts⟩ (kX5_firstFault l N0 G _ _ pg hP) (cwV 0 hts gX5_isTown_X5_firstFault rfl rfl rfl (by decide +kernel) ⟨Nat.le_of_ble_eq_true rfl, Nat.le_of_ble_eq_true rfl⟩) hG hN hw hS (ci := 5) (by repeat first | assumption | exact wu_eq _ _ _ | refine wu_ne (by omega) ?_) rfl rfl hl.1 rfl (Nat.le_of_ble_eq_true rfl) dX5_isTown_24 ⟨Nat.le_of_ble_eq_true rfl, Nat.le_of_ble_eq_true rfl⟩ (fun r24 w24 H locs hp24 hw hS => ?_)
      obtain ⟨rfl, rfl⟩ := hp24
      refine xaload_n hx hb dX5_isTown_27 hl rfl ?_
      refine xget (C := RX5) (T := TX5) (N := 2) hx hb (ci := 5) hts hiX5 hown hG hw (by repeat first | assumption | exact wu_eq _ _ _ | refine wu_ne (by omega) ?_) rfl 1 (by decide) hlnk0 (fun _ h9 => h9) rfl dX5_isTown_28 ?_
      first | refine xcmp_ne (tgt := 38) hx hb dX5_isTown_31 (by decide) (by omega) (by omega) (fun c31 => ?_) (fun c31 => ?_) | refine lv_icmp_ne (tgt := 38) hx hb dX5_isTown_31 (by decide) (fun c31 => ?_) (fun c31 => ?_)
      · skip
        refine lv_iconst (v := nI 0) hx hb dX5_isTown_38 (by decide) ?_
        first | exact xzret hx hb hr hlk hw hS dX5_isTown_39 true rfl ⟨congrArg bI (decide_eq_true (by omega)), rfl⟩ | exact xzret hx hb hr hlk hw hS dX5_isTown_39 false rfl ⟨congrArg bI (decide_eq_false (by omega)), rfl⟩
      · skip
        refine lv_iconst (v := nI 1) hx hb dX5_isTown_34 (by decide) ?_
        refine lv_goto (tgt := 39) hx hb dX5_isTown_35 (by decide) ?_
        first | exact xzret hx hb hr hlk hw hS dX5_isTown_39 true rfl ⟨congrArg bI (decide_eq_true (by omega)), rfl⟩ | exact xzret hx hb hr hlk hw hS dX5_isTown_39 false rfl ⟨congrArg bI (decide_eq_false (by omega)), rfl⟩
