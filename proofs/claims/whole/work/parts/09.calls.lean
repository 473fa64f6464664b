section XC
variable {p : Program} {l : Launch} {e : Env} {R : Room} {s : State} {m : MethodId} {args : Array Value} {below : List Frame} {meth : Method} {c : Code} {H : Heap} {locs : List Loc} {cells slots : Nat} {Q : State → Prop}
variable {cc : ByteArray} {pc : Nat} {ls : Array Slot} {rest st0 : List Value} {N0 : Nat} {G : XG} {w : Wd} {H0 : Heap} {a nL mc ms n index maxL : Nat} {vs : List (Option Value)} {y : MethodName} {bytes : ByteArray} {ret : Option FieldType} {ws : List Cond} {rm : Room} {Ts : List Cond} {own C : String} {b : Nat} {As : List Value}
theorem xcall {ρ : Type} {val : ρ → Option Value} {post : ρ → Wd → Prop} {ar : Array Value} (hr : va_Run p l e R s m args below meth c H locs cells slots mc ms (F0 m pc ls st0) rest (XQ N0 G val post ar) (fun q => N0 ≤ q)) (hS : va_S (fun q => N0 ≤ q) H0 H locs)
    (kk : ∀ (r : ρ) (w1 : Wd) (H1 : Heap) (locs1 : List Loc), post r w1 → PW N0 G w1 H1 → va_S (fun q => N0 ≤ q) H0 H1 locs1 → W p l e R s m args below meth c H1 locs1 (cells + mc) (slots + ms) Q (F0 m (pc + 3) ls ((val r).toList ++ rest))) : W p l e R s m args below meth c H locs cells slots Q (F0 m pc ls st0) := by
  intro T hT X
  obtain ⟨v, st₀, t, T', L, h0, X', hL, e1, e2, ⟨⟨r, w1, hv, hp, hb⟩, hz, hk⟩, st⟩ := hr T hT X
  obtain rfl : v = val r := Outcome.returned.inj hv
  rw [h0] at hz hk
  obtain ⟨t2, a1, b1⟩ := kk r w1 T'.heap (locs ++ L) hp (by rw [e1]; exact hb)
    ⟨Nat.le_trans hS.1 (by rw [e1]; exact hz), fun q h1 h2 => by rw [e1, hk q (Nat.lt_of_lt_of_le h1 hS.1) h2]; exact hS.2.1 q h1 h2, fun q hq => by
      rcases List.mem_append.mp hq with h | h
      · exact hS.2.2 q h
      · exact hL q h⟩ T' rfl X'
  exact ⟨t2, st t2 a1, b1⟩
theorem xpreV {s : State} {H : Heap} {ci : Nat} {fs : List Value} {T : u_T} {N : Nat} {C : String} {b : Nat} {As : List Value} (hG : GK G s) (hN : N0 ≤ H.size ∧ SK N0 G s H) (hw : PW N0 G w H) (hrec : w b = some (.inr (ci, fs))) (hci : vwCl[ci]? = some (C, T, N)) : PreV s H C b (va_Pc (.ref b :: As) (XP N0 G w)) As :=
  ⟨XP.blind, va_recv hG.1 (hw.one hrec) hci (q0 := 0) rfl, fun U hU hW => ⟨rfl, by rw [hU]; exact ⟨hN.1, hN.2.warm hW⟩, by rw [hU]; exact hw, hG.warm hW⟩⟩
theorem xpreS {s : State} {H : Heap} {As : List Value} (hG : GK G s) (hN : N0 ≤ H.size ∧ SK N0 G s H) (hw : PW N0 G w H) : PreS s H (va_Pc As (XP N0 G w)) As :=
  ⟨XP.blind, fun U hU hW => ⟨rfl, by rw [hU]; exact ⟨hN.1, hN.2.warm hW⟩, by rw [hU]; exact hw, hG.warm hW⟩⟩

theorem xVi {post : Int32 → Wd → Prop} (S : CallFix p m c cc nL s args Ts own) (hM : XM l y ws rm N0 G (.ref b :: As) w vI post mc ms) (cw : CallW R s args own C index y bytes maxL ret ws rm mc ms n) (hG : GK G s) (hN : N0 ≤ H0.size ∧ SK N0 G s H0) (hw : PW N0 G w H) (hS : va_S (fun q => N0 ≤ q) H0 H locs) (ci : Nat) {fs : List Value} {T : u_T} {N : Nat} (hrec : w b = some (.inr (ci, fs))) (hci : vwCl[ci]? = some (C, T, N)) (hn : As.length = n) (hsize : ls.size = nL) (hstack : st0 = As.reverse ++ .ref b :: rest) (hW : (rest.map fun v => v.category).sum ≤ 8) (hdg : decode cc pc = .ok (.invokevirtual index, 3)) (hf : cells + mc ≤ R.cells ∧ slots + ms ≤ R.slots)
    (kk : ∀ (r : Int32) (w1 : Wd) (H1 : Heap) (locs1 : List Loc), post r w1 → PW N0 G w1 H1 → va_S (fun q => N0 ≤ q) H0 H1 locs1 → W p l e R s m args below meth c H1 locs1 (cells + mc) (slots + ms) Q (F0 m (pc + 3) ls (.int r :: rest))) : W p l e R s m args below meth c H locs cells slots Q (F0 m pc ls st0) :=
  xcall (va_runV S hM cw (xpreV hG ⟨Nat.le_trans hN.1 hS.1, hN.2.kept hS⟩ hw hrec hci) rfl hn hsize hstack (lv_room (m := m) (pc := pc) (ls := ls) (rest := st0) hW) hdg hf) hS kk
theorem xVv {post : Unit → Wd → Prop} (S : CallFix p m c cc nL s args Ts own) (hM : XM l y ws rm N0 G (.ref b :: As) w vV post mc ms) (cw : CallW R s args own C index y bytes maxL ret ws rm mc ms n) (hG : GK G s) (hN : N0 ≤ H0.size ∧ SK N0 G s H0) (hw : PW N0 G w H) (hS : va_S (fun q => N0 ≤ q) H0 H locs) (ci : Nat) {fs : List Value} {T : u_T} {N : Nat} (hrec : w b = some (.inr (ci, fs))) (hci : vwCl[ci]? = some (C, T, N)) (hn : As.length = n) (hsize : ls.size = nL) (hstack : st0 = As.reverse ++ .ref b :: rest) (hW : (rest.map fun v => v.category).sum ≤ 8) (hdg : decode cc pc = .ok (.invokevirtual index, 3)) (hf : cells + mc ≤ R.cells ∧ slots + ms ≤ R.slots)
    (kk : ∀ (r : Unit) (w1 : Wd) (H1 : Heap) (locs1 : List Loc), post r w1 → PW N0 G w1 H1 → va_S (fun q => N0 ≤ q) H0 H1 locs1 → W p l e R s m args below meth c H1 locs1 (cells + mc) (slots + ms) Q (F0 m (pc + 3) ls (rest))) : W p l e R s m args below meth c H locs cells slots Q (F0 m pc ls st0) :=
  xcall (va_runV S hM cw (xpreV hG ⟨Nat.le_trans hN.1 hS.1, hN.2.kept hS⟩ hw hrec hci) rfl hn hsize hstack (lv_room (m := m) (pc := pc) (ls := ls) (rest := st0) hW) hdg hf) hS kk
theorem xVl {post : Int64 → Wd → Prop} (S : CallFix p m c cc nL s args Ts own) (hM : XM l y ws rm N0 G (.ref b :: As) w vL post mc ms) (cw : CallW R s args own C index y bytes maxL ret ws rm mc ms n) (hG : GK G s) (hN : N0 ≤ H0.size ∧ SK N0 G s H0) (hw : PW N0 G w H) (hS : va_S (fun q => N0 ≤ q) H0 H locs) (ci : Nat) {fs : List Value} {T : u_T} {N : Nat} (hrec : w b = some (.inr (ci, fs))) (hci : vwCl[ci]? = some (C, T, N)) (hn : As.length = n) (hsize : ls.size = nL) (hstack : st0 = As.reverse ++ .ref b :: rest) (hW : (rest.map fun v => v.category).sum ≤ 8) (hdg : decode cc pc = .ok (.invokevirtual index, 3)) (hf : cells + mc ≤ R.cells ∧ slots + ms ≤ R.slots)
    (kk : ∀ (r : Int64) (w1 : Wd) (H1 : Heap) (locs1 : List Loc), post r w1 → PW N0 G w1 H1 → va_S (fun q => N0 ≤ q) H0 H1 locs1 → W p l e R s m args below meth c H1 locs1 (cells + mc) (slots + ms) Q (F0 m (pc + 3) ls (.long r :: rest))) : W p l e R s m args below meth c H locs cells slots Q (F0 m pc ls st0) :=
  xcall (va_runV S hM cw (xpreV hG ⟨Nat.le_trans hN.1 hS.1, hN.2.kept hS⟩ hw hrec hci) rfl hn hsize hstack (lv_room (m := m) (pc := pc) (ls := ls) (rest := st0) hW) hdg hf) hS kk
theorem xVr {post : Option Nat → Wd → Prop} (S : CallFix p m c cc nL s args Ts own) (hM : XM l y ws rm N0 G (.ref b :: As) w vR post mc ms) (cw : CallW R s args own C index y bytes maxL ret ws rm mc ms n) (hG : GK G s) (hN : N0 ≤ H0.size ∧ SK N0 G s H0) (hw : PW N0 G w H) (hS : va_S (fun q => N0 ≤ q) H0 H locs) (ci : Nat) {fs : List Value} {T : u_T} {N : Nat} (hrec : w b = some (.inr (ci, fs))) (hci : vwCl[ci]? = some (C, T, N)) (hn : As.length = n) (hsize : ls.size = nL) (hstack : st0 = As.reverse ++ .ref b :: rest) (hW : (rest.map fun v => v.category).sum ≤ 8) (hdg : decode cc pc = .ok (.invokevirtual index, 3)) (hf : cells + mc ≤ R.cells ∧ slots + ms ≤ R.slots)
    (kk : ∀ (r : Option Nat) (w1 : Wd) (H1 : Heap) (locs1 : List Loc), post r w1 → PW N0 G w1 H1 → va_S (fun q => N0 ≤ q) H0 H1 locs1 → W p l e R s m args below meth c H1 locs1 (cells + mc) (slots + ms) Q (F0 m (pc + 3) ls (va_rf r :: rest))) : W p l e R s m args below meth c H locs cells slots Q (F0 m pc ls st0) :=
  xcall (va_runV S hM cw (xpreV hG ⟨Nat.le_trans hN.1 hS.1, hN.2.kept hS⟩ hw hrec hci) rfl hn hsize hstack (lv_room (m := m) (pc := pc) (ls := ls) (rest := st0) hW) hdg hf) hS kk
theorem xSi {post : Int32 → Wd → Prop} (S : CallFix p m c cc nL s args Ts own) (hM : XM l y ws rm N0 G (As) w vI post mc ms) (cw : CallB R s args own index y bytes maxL ret ws rm mc ms n ∧ (Cond.static y).before args s = true) (hG : GK G s) (hN : N0 ≤ H0.size ∧ SK N0 G s H0) (hw : PW N0 G w H) (hS : va_S (fun q => N0 ≤ q) H0 H locs) (hn : As.length = n) (hsize : ls.size = nL) (hstack : st0 = As.reverse ++ rest) (hW : (rest.map fun v => v.category).sum ≤ 8) (hdg : decode cc pc = .ok (.invokestatic index, 3)) (hf : cells + mc ≤ R.cells ∧ slots + ms ≤ R.slots)
    (kk : ∀ (r : Int32) (w1 : Wd) (H1 : Heap) (locs1 : List Loc), post r w1 → PW N0 G w1 H1 → va_S (fun q => N0 ≤ q) H0 H1 locs1 → W p l e R s m args below meth c H1 locs1 (cells + mc) (slots + ms) Q (F0 m (pc + 3) ls (.int r :: rest))) : W p l e R s m args below meth c H locs cells slots Q (F0 m pc ls st0) :=
  xcall (va_runS S hM cw (xpreS hG ⟨Nat.le_trans hN.1 hS.1, hN.2.kept hS⟩ hw) rfl hn hsize hstack (lv_room (m := m) (pc := pc) (ls := ls) (rest := st0) hW) hdg hf) hS kk
theorem xSv {post : Unit → Wd → Prop} (S : CallFix p m c cc nL s args Ts own) (hM : XM l y ws rm N0 G (As) w vV post mc ms) (cw : CallB R s args own index y bytes maxL ret ws rm mc ms n ∧ (Cond.static y).before args s = true) (hG : GK G s) (hN : N0 ≤ H0.size ∧ SK N0 G s H0) (hw : PW N0 G w H) (hS : va_S (fun q => N0 ≤ q) H0 H locs) (hn : As.length = n) (hsize : ls.size = nL) (hstack : st0 = As.reverse ++ rest) (hW : (rest.map fun v => v.category).sum ≤ 8) (hdg : decode cc pc = .ok (.invokestatic index, 3)) (hf : cells + mc ≤ R.cells ∧ slots + ms ≤ R.slots)
    (kk : ∀ (r : Unit) (w1 : Wd) (H1 : Heap) (locs1 : List Loc), post r w1 → PW N0 G w1 H1 → va_S (fun q => N0 ≤ q) H0 H1 locs1 → W p l e R s m args below meth c H1 locs1 (cells + mc) (slots + ms) Q (F0 m (pc + 3) ls (rest))) : W p l e R s m args below meth c H locs cells slots Q (F0 m pc ls st0) :=
  xcall (va_runS S hM cw (xpreS hG ⟨Nat.le_trans hN.1 hS.1, hN.2.kept hS⟩ hw) rfl hn hsize hstack (lv_room (m := m) (pc := pc) (ls := ls) (rest := st0) hW) hdg hf) hS kk
theorem xSl {post : Int64 → Wd → Prop} (S : CallFix p m c cc nL s args Ts own) (hM : XM l y ws rm N0 G (As) w vL post mc ms) (cw : CallB R s args own index y bytes maxL ret ws rm mc ms n ∧ (Cond.static y).before args s = true) (hG : GK G s) (hN : N0 ≤ H0.size ∧ SK N0 G s H0) (hw : PW N0 G w H) (hS : va_S (fun q => N0 ≤ q) H0 H locs) (hn : As.length = n) (hsize : ls.size = nL) (hstack : st0 = As.reverse ++ rest) (hW : (rest.map fun v => v.category).sum ≤ 8) (hdg : decode cc pc = .ok (.invokestatic index, 3)) (hf : cells + mc ≤ R.cells ∧ slots + ms ≤ R.slots)
    (kk : ∀ (r : Int64) (w1 : Wd) (H1 : Heap) (locs1 : List Loc), post r w1 → PW N0 G w1 H1 → va_S (fun q => N0 ≤ q) H0 H1 locs1 → W p l e R s m args below meth c H1 locs1 (cells + mc) (slots + ms) Q (F0 m (pc + 3) ls (.long r :: rest))) : W p l e R s m args below meth c H locs cells slots Q (F0 m pc ls st0) :=
  xcall (va_runS S hM cw (xpreS hG ⟨Nat.le_trans hN.1 hS.1, hN.2.kept hS⟩ hw) rfl hn hsize hstack (lv_room (m := m) (pc := pc) (ls := ls) (rest := st0) hW) hdg hf) hS kk
theorem xSr {post : Option Nat → Wd → Prop} (S : CallFix p m c cc nL s args Ts own) (hM : XM l y ws rm N0 G (As) w vR post mc ms) (cw : CallB R s args own index y bytes maxL ret ws rm mc ms n ∧ (Cond.static y).before args s = true) (hG : GK G s) (hN : N0 ≤ H0.size ∧ SK N0 G s H0) (hw : PW N0 G w H) (hS : va_S (fun q => N0 ≤ q) H0 H locs) (hn : As.length = n) (hsize : ls.size = nL) (hstack : st0 = As.reverse ++ rest) (hW : (rest.map fun v => v.category).sum ≤ 8) (hdg : decode cc pc = .ok (.invokestatic index, 3)) (hf : cells + mc ≤ R.cells ∧ slots + ms ≤ R.slots)
    (kk : ∀ (r : Option Nat) (w1 : Wd) (H1 : Heap) (locs1 : List Loc), post r w1 → PW N0 G w1 H1 → va_S (fun q => N0 ≤ q) H0 H1 locs1 → W p l e R s m args below meth c H1 locs1 (cells + mc) (slots + ms) Q (F0 m (pc + 3) ls (va_rf r :: rest))) : W p l e R s m args below meth c H locs cells slots Q (F0 m pc ls st0) :=
  xcall (va_runS S hM cw (xpreS hG ⟨Nat.le_trans hN.1 hS.1, hN.2.kept hS⟩ hw) rfl hn hsize hstack (lv_room (m := m) (pc := pc) (ls := ls) (rest := st0) hW) hdg hf) hS kk
theorem xIv {post : Unit → Wd → Prop} (S : CallFix p m c cc nL s args Ts own) (hM : XM l y ws rm N0 G (.ref b :: As) w vV post mc ms) (cw : CallB R s args own index y bytes maxL none ws rm mc ms n ∧ y.name = "<init>" ∧ (Cond.instanceMethod y).before args s = true) (hG : GK G s) (hN : N0 ≤ H0.size ∧ SK N0 G s H0) (hw : PW N0 G w H) (hS : va_S (fun q => N0 ≤ q) H0 H locs) (hn : As.length = n) (hsize : ls.size = nL) (hstack : st0 = As.reverse ++ .ref b :: rest) (hW : (rest.map fun v => v.category).sum ≤ 8) (hdg : decode cc pc = .ok (.invokespecial index, 3)) (hf : cells + mc ≤ R.cells ∧ slots + ms ≤ R.slots)
    (kk : ∀ (r : Unit) (w1 : Wd) (H1 : Heap) (locs1 : List Loc), post r w1 → PW N0 G w1 H1 → va_S (fun q => N0 ≤ q) H0 H1 locs1 → W p l e R s m args below meth c H1 locs1 (cells + mc) (slots + ms) Q (F0 m (pc + 3) ls (rest))) : W p l e R s m args below meth c H locs cells slots Q (F0 m pc ls st0) :=
  xcall (va_runI S hM cw (xpreS hG ⟨Nat.le_trans hN.1 hS.1, hN.2.kept hS⟩ hw) rfl hn hsize hstack (lv_room (m := m) (pc := pc) (ls := ls) (rest := st0) hW) hdg hf) hS kk
theorem xSNi {host : String} {post : Int32 → Wd → Prop} (S : CallFix p m c cc nL s args Ts own) (hM : XM l y ws rm N0 G (As) w vI post mc ms) (cw : va_CN R s args own index y host bytes maxL ret ws rm mc ms n ∧ (Cond.static y).before args s = true ∧ True) (hG : GK G s) (hN : N0 ≤ H0.size ∧ SK N0 G s H0) (hw : PW N0 G w H) (hS : va_S (fun q => N0 ≤ q) H0 H locs) (hn : As.length = n) (hsize : ls.size = nL) (hstack : st0 = As.reverse ++ rest) (hW : (rest.map fun v => v.category).sum ≤ 8) (hdg : decode cc pc = .ok (.invokestatic index, 3)) (hf : cells + mc ≤ R.cells ∧ slots + ms ≤ R.slots)
    (kk : ∀ (r : Int32) (w1 : Wd) (H1 : Heap) (locs1 : List Loc), post r w1 → PW N0 G w1 H1 → va_S (fun q => N0 ≤ q) H0 H1 locs1 → W p l e R s m args below meth c H1 locs1 (cells + mc) (slots + ms) Q (F0 m (pc + 3) ls (.int r :: rest))) : W p l e R s m args below meth c H locs cells slots Q (F0 m pc ls st0) :=
  xcall (va_runSN S hM cw (xpreS hG ⟨Nat.le_trans hN.1 hS.1, hN.2.kept hS⟩ hw) rfl hn hsize hstack (lv_room (m := m) (pc := pc) (ls := ls) (rest := st0) hW) hdg hf) hS kk
theorem xSNv {host : String} {post : Unit → Wd → Prop} (S : CallFix p m c cc nL s args Ts own) (hM : XM l y ws rm N0 G (As) w vV post mc ms) (cw : va_CN R s args own index y host bytes maxL ret ws rm mc ms n ∧ (Cond.static y).before args s = true ∧ True) (hG : GK G s) (hN : N0 ≤ H0.size ∧ SK N0 G s H0) (hw : PW N0 G w H) (hS : va_S (fun q => N0 ≤ q) H0 H locs) (hn : As.length = n) (hsize : ls.size = nL) (hstack : st0 = As.reverse ++ rest) (hW : (rest.map fun v => v.category).sum ≤ 8) (hdg : decode cc pc = .ok (.invokestatic index, 3)) (hf : cells + mc ≤ R.cells ∧ slots + ms ≤ R.slots)
    (kk : ∀ (r : Unit) (w1 : Wd) (H1 : Heap) (locs1 : List Loc), post r w1 → PW N0 G w1 H1 → va_S (fun q => N0 ≤ q) H0 H1 locs1 → W p l e R s m args below meth c H1 locs1 (cells + mc) (slots + ms) Q (F0 m (pc + 3) ls (rest))) : W p l e R s m args below meth c H locs cells slots Q (F0 m pc ls st0) :=
  xcall (va_runSN S hM cw (xpreS hG ⟨Nat.le_trans hN.1 hS.1, hN.2.kept hS⟩ hw) rfl hn hsize hstack (lv_room (m := m) (pc := pc) (ls := ls) (rest := st0) hW) hdg hf) hS kk
theorem xSNl {host : String} {post : Int64 → Wd → Prop} (S : CallFix p m c cc nL s args Ts own) (hM : XM l y ws rm N0 G (As) w vL post mc ms) (cw : va_CN R s args own index y host bytes maxL ret ws rm mc ms n ∧ (Cond.static y).before args s = true ∧ True) (hG : GK G s) (hN : N0 ≤ H0.size ∧ SK N0 G s H0) (hw : PW N0 G w H) (hS : va_S (fun q => N0 ≤ q) H0 H locs) (hn : As.length = n) (hsize : ls.size = nL) (hstack : st0 = As.reverse ++ rest) (hW : (rest.map fun v => v.category).sum ≤ 8) (hdg : decode cc pc = .ok (.invokestatic index, 3)) (hf : cells + mc ≤ R.cells ∧ slots + ms ≤ R.slots)
    (kk : ∀ (r : Int64) (w1 : Wd) (H1 : Heap) (locs1 : List Loc), post r w1 → PW N0 G w1 H1 → va_S (fun q => N0 ≤ q) H0 H1 locs1 → W p l e R s m args below meth c H1 locs1 (cells + mc) (slots + ms) Q (F0 m (pc + 3) ls (.long r :: rest))) : W p l e R s m args below meth c H locs cells slots Q (F0 m pc ls st0) :=
  xcall (va_runSN S hM cw (xpreS hG ⟨Nat.le_trans hN.1 hS.1, hN.2.kept hS⟩ hw) rfl hn hsize hstack (lv_room (m := m) (pc := pc) (ls := ls) (rest := st0) hW) hdg hf) hS kk
theorem xSNr {host : String} {post : Option Nat → Wd → Prop} (S : CallFix p m c cc nL s args Ts own) (hM : XM l y ws rm N0 G (As) w vR post mc ms) (cw : va_CN R s args own index y host bytes maxL ret ws rm mc ms n ∧ (Cond.static y).before args s = true ∧ True) (hG : GK G s) (hN : N0 ≤ H0.size ∧ SK N0 G s H0) (hw : PW N0 G w H) (hS : va_S (fun q => N0 ≤ q) H0 H locs) (hn : As.length = n) (hsize : ls.size = nL) (hstack : st0 = As.reverse ++ rest) (hW : (rest.map fun v => v.category).sum ≤ 8) (hdg : decode cc pc = .ok (.invokestatic index, 3)) (hf : cells + mc ≤ R.cells ∧ slots + ms ≤ R.slots)
    (kk : ∀ (r : Option Nat) (w1 : Wd) (H1 : Heap) (locs1 : List Loc), post r w1 → PW N0 G w1 H1 → va_S (fun q => N0 ≤ q) H0 H1 locs1 → W p l e R s m args below meth c H1 locs1 (cells + mc) (slots + ms) Q (F0 m (pc + 3) ls (va_rf r :: rest))) : W p l e R s m args below meth c H locs cells slots Q (F0 m pc ls st0) :=
  xcall (va_runSN S hM cw (xpreS hG ⟨Nat.le_trans hN.1 hS.1, hN.2.kept hS⟩ hw) rfl hn hsize hstack (lv_room (m := m) (pc := pc) (ls := ls) (rest := st0) hW) hdg hf) hS kk
theorem xINv {host : String} {post : Unit → Wd → Prop} (S : CallFix p m c cc nL s args Ts own) (hM : XM l y ws rm N0 G (.ref b :: As) w vV post mc ms) (cw : va_CN R s args own index y host bytes maxL none ws rm mc ms n ∧ y.name = "<init>" ∧ (Cond.instanceMethod y).before args s = true) (hG : GK G s) (hN : N0 ≤ H0.size ∧ SK N0 G s H0) (hw : PW N0 G w H) (hS : va_S (fun q => N0 ≤ q) H0 H locs) (hn : As.length = n) (hsize : ls.size = nL) (hstack : st0 = As.reverse ++ .ref b :: rest) (hW : (rest.map fun v => v.category).sum ≤ 8) (hdg : decode cc pc = .ok (.invokespecial index, 3)) (hf : cells + mc ≤ R.cells ∧ slots + ms ≤ R.slots)
    (kk : ∀ (r : Unit) (w1 : Wd) (H1 : Heap) (locs1 : List Loc), post r w1 → PW N0 G w1 H1 → va_S (fun q => N0 ≤ q) H0 H1 locs1 → W p l e R s m args below meth c H1 locs1 (cells + mc) (slots + ms) Q (F0 m (pc + 3) ls (rest))) : W p l e R s m args below meth c H locs cells slots Q (F0 m pc ls st0) :=
  xcall (va_runIN S hM cw (xpreS hG ⟨Nat.le_trans hN.1 hS.1, hN.2.kept hS⟩ hw) rfl hn hsize hstack (lv_room (m := m) (pc := pc) (ls := ls) (rest := st0) hW) hdg hf) hS kk
theorem xUi {owner : String} {x : MethodName} {post : Int32 → Wd → Prop} (S : CallFix p m c cc nL s args Ts own) (hM : XM l y ws rm N0 G (.ref b :: As) w vI post mc ms) (cw : va_CU R s args own C owner index x y bytes maxL ret ws rm mc ms n) (hG : GK G s) (hN : N0 ≤ H0.size ∧ SK N0 G s H0) (hw : PW N0 G w H) (hS : va_S (fun q => N0 ≤ q) H0 H locs) (ci : Nat) {fs : List Value} {T : u_T} {N : Nat} (hrec : w b = some (.inr (ci, fs))) (hci : vwCl[ci]? = some (C, T, N)) (hn : As.length = n) (hsize : ls.size = nL) (hstack : st0 = As.reverse ++ .ref b :: rest) (hW : (rest.map fun v => v.category).sum ≤ 8) (hdg : decode cc pc = .ok (.invokevirtual index, 3)) (hf : cells + mc ≤ R.cells ∧ slots + ms ≤ R.slots)
    (kk : ∀ (r : Int32) (w1 : Wd) (H1 : Heap) (locs1 : List Loc), post r w1 → PW N0 G w1 H1 → va_S (fun q => N0 ≤ q) H0 H1 locs1 → W p l e R s m args below meth c H1 locs1 (cells + mc) (slots + ms) Q (F0 m (pc + 3) ls (.int r :: rest))) : W p l e R s m args below meth c H locs cells slots Q (F0 m pc ls st0) :=
  xcall (va_runU S hM cw (xpreV hG ⟨Nat.le_trans hN.1 hS.1, hN.2.kept hS⟩ hw hrec hci) rfl hn hsize hstack (lv_room (m := m) (pc := pc) (ls := ls) (rest := st0) hW) hdg hf) hS kk
theorem xUv {owner : String} {x : MethodName} {post : Unit → Wd → Prop} (S : CallFix p m c cc nL s args Ts own) (hM : XM l y ws rm N0 G (.ref b :: As) w vV post mc ms) (cw : va_CU R s args own C owner index x y bytes maxL ret ws rm mc ms n) (hG : GK G s) (hN : N0 ≤ H0.size ∧ SK N0 G s H0) (hw : PW N0 G w H) (hS : va_S (fun q => N0 ≤ q) H0 H locs) (ci : Nat) {fs : List Value} {T : u_T} {N : Nat} (hrec : w b = some (.inr (ci, fs))) (hci : vwCl[ci]? = some (C, T, N)) (hn : As.length = n) (hsize : ls.size = nL) (hstack : st0 = As.reverse ++ .ref b :: rest) (hW : (rest.map fun v => v.category).sum ≤ 8) (hdg : decode cc pc = .ok (.invokevirtual index, 3)) (hf : cells + mc ≤ R.cells ∧ slots + ms ≤ R.slots)
    (kk : ∀ (r : Unit) (w1 : Wd) (H1 : Heap) (locs1 : List Loc), post r w1 → PW N0 G w1 H1 → va_S (fun q => N0 ≤ q) H0 H1 locs1 → W p l e R s m args below meth c H1 locs1 (cells + mc) (slots + ms) Q (F0 m (pc + 3) ls (rest))) : W p l e R s m args below meth c H locs cells slots Q (F0 m pc ls st0) :=
  xcall (va_runU S hM cw (xpreV hG ⟨Nat.le_trans hN.1 hS.1, hN.2.kept hS⟩ hw hrec hci) rfl hn hsize hstack (lv_room (m := m) (pc := pc) (ls := ls) (rest := st0) hW) hdg hf) hS kk
theorem xUl {owner : String} {x : MethodName} {post : Int64 → Wd → Prop} (S : CallFix p m c cc nL s args Ts own) (hM : XM l y ws rm N0 G (.ref b :: As) w vL post mc ms) (cw : va_CU R s args own C owner index x y bytes maxL ret ws rm mc ms n) (hG : GK G s) (hN : N0 ≤ H0.size ∧ SK N0 G s H0) (hw : PW N0 G w H) (hS : va_S (fun q => N0 ≤ q) H0 H locs) (ci : Nat) {fs : List Value} {T : u_T} {N : Nat} (hrec : w b = some (.inr (ci, fs))) (hci : vwCl[ci]? = some (C, T, N)) (hn : As.length = n) (hsize : ls.size = nL) (hstack : st0 = As.reverse ++ .ref b :: rest) (hW : (rest.map fun v => v.category).sum ≤ 8) (hdg : decode cc pc = .ok (.invokevirtual index, 3)) (hf : cells + mc ≤ R.cells ∧ slots + ms ≤ R.slots)
    (kk : ∀ (r : Int64) (w1 : Wd) (H1 : Heap) (locs1 : List Loc), post r w1 → PW N0 G w1 H1 → va_S (fun q => N0 ≤ q) H0 H1 locs1 → W p l e R s m args below meth c H1 locs1 (cells + mc) (slots + ms) Q (F0 m (pc + 3) ls (.long r :: rest))) : W p l e R s m args below meth c H locs cells slots Q (F0 m pc ls st0) :=
  xcall (va_runU S hM cw (xpreV hG ⟨Nat.le_trans hN.1 hS.1, hN.2.kept hS⟩ hw hrec hci) rfl hn hsize hstack (lv_room (m := m) (pc := pc) (ls := ls) (rest := st0) hW) hdg hf) hS kk
theorem xUr {owner : String} {x : MethodName} {post : Option Nat → Wd → Prop} (S : CallFix p m c cc nL s args Ts own) (hM : XM l y ws rm N0 G (.ref b :: As) w vR post mc ms) (cw : va_CU R s args own C owner index x y bytes maxL ret ws rm mc ms n) (hG : GK G s) (hN : N0 ≤ H0.size ∧ SK N0 G s H0) (hw : PW N0 G w H) (hS : va_S (fun q => N0 ≤ q) H0 H locs) (ci : Nat) {fs : List Value} {T : u_T} {N : Nat} (hrec : w b = some (.inr (ci, fs))) (hci : vwCl[ci]? = some (C, T, N)) (hn : As.length = n) (hsize : ls.size = nL) (hstack : st0 = As.reverse ++ .ref b :: rest) (hW : (rest.map fun v => v.category).sum ≤ 8) (hdg : decode cc pc = .ok (.invokevirtual index, 3)) (hf : cells + mc ≤ R.cells ∧ slots + ms ≤ R.slots)
    (kk : ∀ (r : Option Nat) (w1 : Wd) (H1 : Heap) (locs1 : List Loc), post r w1 → PW N0 G w1 H1 → va_S (fun q => N0 ≤ q) H0 H1 locs1 → W p l e R s m args below meth c H1 locs1 (cells + mc) (slots + ms) Q (F0 m (pc + 3) ls (va_rf r :: rest))) : W p l e R s m args below meth c H locs cells slots Q (F0 m pc ls st0) :=
  xcall (va_runU S hM cw (xpreV hG ⟨Nat.le_trans hN.1 hS.1, hN.2.kept hS⟩ hw hrec hci) rfl hn hsize hstack (lv_room (m := m) (pc := pc) (ls := ls) (rest := st0) hW) hdg hf) hS kk
theorem xSUi {post : Int32 → Wd → Prop} (S : CallFix p m c cc nL s args Ts own) (hM : XM l y ws rm N0 G (.ref b :: As) w vI post mc ms) (cw : va_CS R s args own index y bytes maxL ret ws rm mc ms n) (hG : GK G s) (hN : N0 ≤ H0.size ∧ SK N0 G s H0) (hw : PW N0 G w H) (hS : va_S (fun q => N0 ≤ q) H0 H locs) (ci : Nat) {fs : List Value} {T : u_T} {N : Nat} (hrec : w b = some (.inr (ci, fs))) (hci : vwCl[ci]? = some (C, T, N)) (hn : As.length = n) (hsize : ls.size = nL) (hstack : st0 = As.reverse ++ .ref b :: rest) (hW : (rest.map fun v => v.category).sum ≤ 8) (hdg : decode cc pc = .ok (.invokespecial index, 3)) (hf : cells + mc ≤ R.cells ∧ slots + ms ≤ R.slots)
    (kk : ∀ (r : Int32) (w1 : Wd) (H1 : Heap) (locs1 : List Loc), post r w1 → PW N0 G w1 H1 → va_S (fun q => N0 ≤ q) H0 H1 locs1 → W p l e R s m args below meth c H1 locs1 (cells + mc) (slots + ms) Q (F0 m (pc + 3) ls (.int r :: rest))) : W p l e R s m args below meth c H locs cells slots Q (F0 m pc ls st0) :=
  xcall (va_runSU (hG.1.1 ci _ hci).2 S hM cw (xpreV hG ⟨Nat.le_trans hN.1 hS.1, hN.2.kept hS⟩ hw hrec hci) rfl hn hsize hstack (lv_room (m := m) (pc := pc) (ls := ls) (rest := st0) hW) hdg hf) hS kk
-- returns
theorem xiret {post : Int32 → Wd → Prop} {r : Int32} (hexec : p.tables.exec = Jvm.exec) (hb : c.code = cc) (hr : meth.sig.returnType = some .int) (hlk : meth.locks = false) (hw : PW N0 G w H) (hS : va_S (fun q => N0 ≤ q) s.heap H locs) (hdg : decode cc pc = .ok (.ireturn, 1)) (hp : post r w) : W p l e R s m args below meth c H locs cells slots (MQ below (XQ N0 G vI post) args s cells slots (fun q => N0 ≤ q)) (F0 m pc ls [.int r]) :=
  W.iret hexec hb hr (fun t ht _ => ⟨⟨r, w, rfl, hp, by rw [ht]; exact hw⟩, hS.F ht⟩) hS.2.2 hdg hlk
theorem xzret {post : Int32 → Wd → Prop} {r : Int32} (hexec : p.tables.exec = Jvm.exec) (hb : c.code = cc) (hr : meth.sig.returnType = some .boolean) (hlk : meth.locks = false) (hw : PW N0 G w H) (hS : va_S (fun q => N0 ≤ q) s.heap H locs) (hdg : decode cc pc = .ok (.ireturn, 1)) (b : Bool) (hb2 : r = bI b) (hp : post (bI b) w) : W p l e R s m args below meth c H locs cells slots (MQ below (XQ N0 G vI post) args s cells slots (fun q => N0 ≤ q)) (F0 m pc ls [.int r]) := by
  subst hb2
  exact W.zret hexec hb hr (by cases b <;> decide) (fun t ht _ => ⟨⟨_, w, rfl, hp, by rw [ht]; exact hw⟩, hS.F ht⟩) hS.2.2 hdg hlk
theorem xlret {post : Int64 → Wd → Prop} {r : Int64} (hexec : p.tables.exec = Jvm.exec) (hb : c.code = cc) (hr : meth.sig.returnType = some .long) (hlk : meth.locks = false) (hw : PW N0 G w H) (hS : va_S (fun q => N0 ≤ q) s.heap H locs) (hdg : decode cc pc = .ok (.lreturn, 1)) (hp : post r w) : W p l e R s m args below meth c H locs cells slots (MQ below (XQ N0 G vL post) args s cells slots (fun q => N0 ≤ q)) (F0 m pc ls [.long r]) :=
  W.lret hexec hb hr (fun t ht _ => ⟨⟨r, w, rfl, hp, by rw [ht]; exact hw⟩, hS.F ht⟩) hS.2.2 hdg hlk
theorem xvret {post : Unit → Wd → Prop} (hexec : p.tables.exec = Jvm.exec) (hb : c.code = cc) (hr : meth.sig.returnType = none) (hlk : meth.locks = false) (hw : PW N0 G w H) (hS : va_S (fun q => N0 ≤ q) s.heap H locs) (hdg : decode cc pc = .ok (.return_, 1)) (hp : post () w) : W p l e R s m args below meth c H locs cells slots (MQ below (XQ N0 G vV post) args s cells slots (fun q => N0 ≤ q)) (F0 m pc ls []) :=
  W.vret hexec hb hr (fun t ht _ => ⟨⟨(), w, rfl, hp, by rw [ht]; exact hw⟩, hS.F ht⟩) hS.2.2 hdg hlk
theorem xaret {post : Option Nat → Wd → Prop} {r : Option Nat} {cn : String} (hexec : p.tables.exec = Jvm.exec) (hb : c.code = cc) (hr : meth.sig.returnType = some (.object cn)) (hlk : meth.locks = false) (hw : PW N0 G w H) (hS : va_S (fun q => N0 ≤ q) s.heap H locs) (hdg : decode cc pc = .ok (.areturn, 1)) (hp : post r w) : W p l e R s m args below meth c H locs cells slots (MQ below (XQ N0 G vR post) args s cells slots (fun q => N0 ≤ q)) (F0 m pc ls [va_rf r]) :=
  W.aret hexec hb hr (Or.inl ⟨_, rfl⟩) (by cases r with | none => exact Or.inl rfl | some q => exact Or.inr ⟨q, rfl⟩) (fun t ht _ => ⟨⟨r, w, rfl, hp, by rw [ht]; exact hw⟩, hS.F ht⟩) hS.2.2 hdg hlk
theorem xaretS {post : Option Nat → Wd → Prop} {q : Nat} {cn : String} (hexec : p.tables.exec = Jvm.exec) (hb : c.code = cc) (hr : meth.sig.returnType = some (.object cn)) (hlk : meth.locks = false) (hw : PW N0 G w H) (hS : va_S (fun q => N0 ≤ q) s.heap H locs) (hdg : decode cc pc = .ok (.areturn, 1)) (hp : post (some q) w) : W p l e R s m args below meth c H locs cells slots (MQ below (XQ N0 G vR post) args s cells slots (fun q => N0 ≤ q)) (F0 m pc ls [.ref q]) := xaret (r := some q) hexec hb hr hlk hw hS hdg hp
theorem xaretN {post : Option Nat → Wd → Prop} {cn : String} (hexec : p.tables.exec = Jvm.exec) (hb : c.code = cc) (hr : meth.sig.returnType = some (.object cn)) (hlk : meth.locks = false) (hw : PW N0 G w H) (hS : va_S (fun q => N0 ≤ q) s.heap H locs) (hdg : decode cc pc = .ok (.areturn, 1)) (hp : post none w) : W p l e R s m args below meth c H locs cells slots (MQ below (XQ N0 G vR post) args s cells slots (fun q => N0 ≤ q)) (F0 m pc ls [.null]) := xaret (r := none) hexec hb hr hlk hw hS hdg hp
-- making
theorem xnew (hexec : p.tables.exec = Jvm.exec) (hb : c.code = cc) {own C : String} {T : u_T} {N : Nat} (ci : Nat) {index : Nat} {Ts : List Cond} (hts : ∀ x ∈ Ts, x.before args s = true) (hin : ∀ x ∈ u_ws C T N, x ∈ Ts) (ty : Nat → FieldType) (hty : ∀ k, k < N → parseFieldDescriptor (T k).2.2.1 = some (ty k)) (hown : s.vm.findClass own = some m.cls) (hcl : (Cond.classLink own index C).before args s = true) (hinst : (Cond.instantiable C N).before args s = true) (hini : (Cond.initialized C).before args s = true)
    (hG : GK G s) (hN : N0 ≤ H0.size ∧ SK N0 G s H0) (hw : PW N0 G w H) (hS : va_S (fun q => N0 ≤ q) H0 H locs) (hc : vwCl[ci]? = some (C, T, N)) {fs : List Value} (hfs : ∀ j, j < N → defaultValue (ty j) = vp_V fs j) (hcells : cells + 1 ≤ R.cells) (hslots : slots + N ≤ R.slots) {z : Nat} (hz : H.size = z) (hdg : decode cc pc = .ok (.new index, 3))
    (kk : ∀ (H1 : Heap), H1.size = z + 1 → PW N0 G (wu w z (.inr (ci, fs))) H1 → va_S (fun q => N0 ≤ q) H0 H1 locs →
      W p l e R s m args below meth c H1 locs (cells + 1) (slots + N) Q (F0 m (pc + 3) ls (.ref z :: rest))) : W p l e R s m args below meth c H locs cells slots Q (F0 m pc ls rest) := by
  subst hz
  have hKn := hG.1.1 ci _ hc
  refine W.newcK hexec hb hown hcl hinst hini rfl hdg hcells hslots hKn.2.1 rfl fun H1 kC hkC e1 z1 o1 => ?_
  exact kk H1 z1 (hw.new (Nat.le_trans hN.1 hS.1) ⟨_, hc, (u_born ty hts hin hKn hkC e1 hty).to hfs⟩ o1) ⟨Nat.le_trans hS.1 (by omega), fun x h1 h2 => (o1 x (Nat.lt_of_lt_of_le h1 hS.1)).trans (hS.2.1 x h1 h2), hS.2.2⟩
theorem xnewI (hexec : p.tables.exec = Jvm.exec) (hb : c.code = cc) (harr : (Cond.arrayClass (newarray.typeOf .int)).before args s = true) (hG : GK G s) (hN : N0 ≤ H0.size ∧ SK N0 G s H0) (hw : PW N0 G w H) (hS : va_S (fun q => N0 ≤ q) H0 H locs)
    {k : Nat} (hk : k ≤ 1000) (hcells : cells + 1 ≤ R.cells) (hslots : slots + k ≤ R.slots) {z : Nat} (hz : H.size = z) (hdg : decode cc pc = .ok (.newarray .int, 2))
    (kk : ∀ (H1 : Heap), H1.size = z + 1 → PW N0 G (wu w z (eI G k (fun _ => 0))) H1 → va_S (fun q => N0 ≤ q) H0 H1 locs →
      W p l e R s m args below meth c H1 locs (cells + 1) (slots + k) Q (F0 m (pc + 2) ls (.ref z :: rest))) : W p l e R s m args below meth c H locs cells slots Q (F0 m pc ls (.int (nI k) :: rest)) := by
  subst hz
  refine va_newaK (N := k) hexec hb harr rfl hdg rfl (nI_pos (by omega)) (nI_clamp (by omega)) (by show k * 4 ≤ _; omega) hcells hslots rfl fun H1 cA e1 z1 o1 hAr hNm => ?_
  have hcA : G.2.1 = cA := by
    have h2 : s.vm.findClass ("[" ++ (FieldType.int).toString) = some G.2.1 := (hG.1.2 0 _ rfl).2
    exact Option.some.inj (h2.symm.trans hNm)
  refine kk H1 z1 (hw.new (Nat.le_trans hN.1 hS.1) ?_ o1) ⟨Nat.le_trans hS.1 (by omega), fun x h1 h2 => (o1 x (Nat.lt_of_lt_of_le h1 hS.1)).trans (hS.2.1 x h1 h2), hS.2.2⟩
  show H1[H.size]? = some (vp_cell _ _)
  rw [hcA]
  exact e1
theorem xnewB (hexec : p.tables.exec = Jvm.exec) (hb : c.code = cc) (harr : (Cond.arrayClass (newarray.typeOf .byte)).before args s = true) (hG : GK G s) (hN : N0 ≤ H0.size ∧ SK N0 G s H0) (hw : PW N0 G w H) (hS : va_S (fun q => N0 ≤ q) H0 H locs)
    {k : Nat} (hk : k ≤ 1000) (hcells : cells + 1 ≤ R.cells) (hslots : slots + k ≤ R.slots) {z : Nat} (hz : H.size = z) (hdg : decode cc pc = .ok (.newarray .byte, 2))
    (kk : ∀ (H1 : Heap), H1.size = z + 1 → PW N0 G (wu w z (eB G k (fun _ => 0))) H1 → va_S (fun q => N0 ≤ q) H0 H1 locs →
      W p l e R s m args below meth c H1 locs (cells + 1) (slots + k) Q (F0 m (pc + 2) ls (.ref z :: rest))) : W p l e R s m args below meth c H locs cells slots Q (F0 m pc ls (.int (nI k) :: rest)) := by
  subst hz
  refine va_newaK (N := k) hexec hb harr rfl hdg rfl (nI_pos (by omega)) (nI_clamp (by omega)) (by show k * 1 ≤ _; omega) hcells hslots rfl fun H1 cA e1 z1 o1 hAr hNm => ?_
  have hcA : G.2.2.1 = cA := by
    have h2 : s.vm.findClass ("[" ++ (FieldType.byte).toString) = some G.2.2.1 := (hG.1.2 1 _ rfl).2
    exact Option.some.inj (h2.symm.trans hNm)
  refine kk H1 z1 (hw.new (Nat.le_trans hN.1 hS.1) ?_ o1) ⟨Nat.le_trans hS.1 (by omega), fun x h1 h2 => (o1 x (Nat.lt_of_lt_of_le h1 hS.1)).trans (hS.2.1 x h1 h2), hS.2.2⟩
  show H1[H.size]? = some (vp_cell _ _)
  rw [hcA]
  exact e1

theorem xnewP (hexec : p.tables.exec = Jvm.exec) (hb : c.code = cc) {own : String} {index : Nat} (hown : s.vm.findClass own = some m.cls) (hclink : (Cond.classLink own index "LentQuill$Person").before args s = true) (hG : GK G s) (hN : N0 ≤ H0.size ∧ SK N0 G s H0) (hw : PW N0 G w H) (hS : va_S (fun q => N0 ≤ q) H0 H locs)
    {k : Nat} (hk : k ≤ 1000) (hcells : cells + 1 ≤ R.cells) (hslots : slots + k ≤ R.slots) {z : Nat} (hz : H.size = z) (hdg : decode cc pc = .ok (.anewarray index, 3))
    (kk : ∀ (H1 : Heap), H1.size = z + 1 → PW N0 G (wu w z (eP G k (fun _ => none))) H1 → va_S (fun q => N0 ≤ q) H0 H1 locs →
      W p l e R s m args below meth c H1 locs (cells + 1) (slots + k) Q (F0 m (pc + 3) ls (.ref z :: rest))) : W p l e R s m args below meth c H locs cells slots Q (F0 m pc ls (.int (nI k) :: rest)) := by
  subst hz
  have hcl : (nI k).toNatClampNeg = k := nI_clamp (by omega)
  refine W.anew hexec hb hown hclink (va_AO.use hG.2.2.1.2.2.2.2.1) rfl hdg rfl (nI_pos (by omega)) (by rw [hcl]; omega) hcells (by rw [hcl]; exact hslots) fun cA kA comp f1 f2 f3 f4 => ?_
  rw [hcl]
  have hcA : G.2.2.2.1 = cA := by
    obtain ⟨_, _, _, _, _, h2⟩ := (hG.1.2 2 _ rfl).2
    exact Option.some.inj (h2.symm.trans f1)
  generalize hH1 : H.push ({ cls := cA, slots := Array.replicate k .null, vm := .none } : Cell) = H1
  have z1 : H1.size = H.size + 1 := by rw [← hH1, Array.size_push]
  have e1 : H1[H.size]? = some (arrV cA k (fun _ => .null)) := by rw [← hH1, Array.getElem?_push_size, ← arrV_new]
  have o1 : ∀ q : Nat, q < H.size → H1[q]? = H[q]? := fun q hq => by rw [← hH1, Array.getElem?_push, if_neg (Nat.ne_of_lt hq)]
  refine kk H1 z1 (hw.new (Nat.le_trans hN.1 hS.1) ?_ o1) ⟨Nat.le_trans hS.1 (by omega), fun x h1 h2 => (o1 x (Nat.lt_of_lt_of_le h1 hS.1)).trans (hS.2.1 x h1 h2), hS.2.2⟩
  show H1[H.size]? = some (vp_cell _ _)
  rw [hcA]
  exact e1

theorem xnewN (hexec : p.tables.exec = Jvm.exec) (hb : c.code = cc) {own : String} {index : Nat} (hown : s.vm.findClass own = some m.cls) (hclink : (Cond.classLink own index "LentQuill$Pen").before args s = true) (hG : GK G s) (hN : N0 ≤ H0.size ∧ SK N0 G s H0) (hw : PW N0 G w H) (hS : va_S (fun q => N0 ≤ q) H0 H locs)
    {k : Nat} (hk : k ≤ 1000) (hcells : cells + 1 ≤ R.cells) (hslots : slots + k ≤ R.slots) {z : Nat} (hz : H.size = z) (hdg : decode cc pc = .ok (.anewarray index, 3))
    (kk : ∀ (H1 : Heap), H1.size = z + 1 → PW N0 G (wu w z (eN G k (fun _ => none))) H1 → va_S (fun q => N0 ≤ q) H0 H1 locs →
      W p l e R s m args below meth c H1 locs (cells + 1) (slots + k) Q (F0 m (pc + 3) ls (.ref z :: rest))) : W p l e R s m args below meth c H locs cells slots Q (F0 m pc ls (.int (nI k) :: rest)) := by
  subst hz
  have hcl : (nI k).toNatClampNeg = k := nI_clamp (by omega)
  refine W.anew hexec hb hown hclink (va_AO.use hG.2.2.1.2.2.2.2.2.1) rfl hdg rfl (nI_pos (by omega)) (by rw [hcl]; omega) hcells (by rw [hcl]; exact hslots) fun cA kA comp f1 f2 f3 f4 => ?_
  rw [hcl]
  have hcA : G.2.2.2.2.1 = cA := by
    obtain ⟨_, _, _, _, _, h2⟩ := (hG.1.2 3 _ rfl).2
    exact Option.some.inj (h2.symm.trans f1)
  generalize hH1 : H.push ({ cls := cA, slots := Array.replicate k .null, vm := .none } : Cell) = H1
  have z1 : H1.size = H.size + 1 := by rw [← hH1, Array.size_push]
  have e1 : H1[H.size]? = some (arrV cA k (fun _ => .null)) := by rw [← hH1, Array.getElem?_push_size, ← arrV_new]
  have o1 : ∀ q : Nat, q < H.size → H1[q]? = H[q]? := fun q hq => by rw [← hH1, Array.getElem?_push, if_neg (Nat.ne_of_lt hq)]
  refine kk H1 z1 (hw.new (Nat.le_trans hN.1 hS.1) ?_ o1) ⟨Nat.le_trans hS.1 (by omega), fun x h1 h2 => (o1 x (Nat.lt_of_lt_of_le h1 hS.1)).trans (hS.2.1 x h1 h2), hS.2.2⟩
  show H1[H.size]? = some (vp_cell _ _)
  rw [hcA]
  exact e1

theorem xpast (hexec : p.tables.exec = Jvm.exec) (hb : c.code = cc) (hG : GK G s) (hw : PW N0 G w H) (hS : va_S (fun q => N0 ≤ q) H0 H locs) {k : Nat} {f : Nat → Option Nat} (he : w a = some (eP G k f)) {i v ci : Nat} {fs : List Value} {C : String} {T : u_T} {N : Nat} (hv : w v = some (.inr (ci, fs))) (hc : vwCl[ci]? = some (C, T, N)) (hcast : C = "LentQuill$Person" ∨ va_Nw (.castable C "LentQuill$Person") s) (hi : i < k) (hk : k < 2 ^ 31) (hdg : decode cc pc = .ok (.aastore, 1))
    (kk : ∀ (H1 : Heap) (locs1 : List Loc), H1.size = H.size → PW N0 G (wu w a (eP G k (va_up f i (some v)))) H1 → va_S (fun q => N0 ≤ q) H0 H1 locs1 → W p l e R s m args below meth c H1 locs1 cells slots Q (F0 m (pc + 1) ls rest)) : W p l e R s m args below meth c H locs cells slots Q (F0 m pc ls (.ref v :: .int (nI i) :: .ref a :: rest)) := by
  have hcl : (nI i).toNatClampNeg = i := nI_clamp (by omega)
  obtain ⟨-, r', hr', cellV, g1, g2, g3, -⟩ := hw v _ hv
  have hcls := (hG.1.1 ci _ hc).2
  obtain ⟨kA, comp, k1, k2, k3, -⟩ := (hG.1.2 2 _ rfl).2
  obtain ⟨kC, hkC, -⟩ := hcls.2
  have hasg : s.vm.assignable (G.1.1 ci) comp = true := by
    rcases hcast with h | h
    · have e3 : comp = G.1.1 ci := Option.some.inj (k3.symm.trans (by rw [← h]; exact hcls.1))
      rw [e3]; exact va_assign hcls
    · obtain ⟨c0, t0, f1, f2, f3⟩ := Cond.castable_spec (va_Nw.use (A := args) rfl h)
      cases hcls.1.symm.trans f1
      cases k3.symm.trans f2
      exact f3
  obtain ⟨kcomp, hkcomp, -⟩ := Vm.findClass_spec k3
  refine W.aast hexec hb (hw a _ he).2 (fun q h => by cases h) (fun h => by cases h) k1 k2 rfl hkcomp ⟨nI_pos (by omega), by show _ < (arrV _ _ _).slots.size; rw [arrV_size, hcl]; exact hi⟩ g1 (fun q h => by rw [g3] at h; cases h) (by rw [g2]; exact hkC) (by rw [g2]; exact hasg) rfl rfl hdg fun H1 e z oq => ?_
  rw [hcl] at e ⊢
  refine kk H1 _ z (hw.put (hw.ge he) ?_ oq) (hS.put z oq (hw.ge he))
  show H1[a]? = some (vp_cell _ _)
  rw [e]
  rw [vp_cell_q, vp_cell_q, arrV_store]
  congr 2
  funext q
  by_cases hq : q = i
  · subst hq
    simp [updV, va_up, va_rf]
  · simp [updV, va_up, hq]

theorem xnast (hexec : p.tables.exec = Jvm.exec) (hb : c.code = cc) (hG : GK G s) (hw : PW N0 G w H) (hS : va_S (fun q => N0 ≤ q) H0 H locs) {k : Nat} {f : Nat → Option Nat} (he : w a = some (eN G k f)) {i v ci : Nat} {fs : List Value} {C : String} {T : u_T} {N : Nat} (hv : w v = some (.inr (ci, fs))) (hc : vwCl[ci]? = some (C, T, N)) (hcast : C = "LentQuill$Pen" ∨ va_Nw (.castable C "LentQuill$Pen") s) (hi : i < k) (hk : k < 2 ^ 31) (hdg : decode cc pc = .ok (.aastore, 1))
    (kk : ∀ (H1 : Heap) (locs1 : List Loc), H1.size = H.size → PW N0 G (wu w a (eN G k (va_up f i (some v)))) H1 → va_S (fun q => N0 ≤ q) H0 H1 locs1 → W p l e R s m args below meth c H1 locs1 cells slots Q (F0 m (pc + 1) ls rest)) : W p l e R s m args below meth c H locs cells slots Q (F0 m pc ls (.ref v :: .int (nI i) :: .ref a :: rest)) := by
  have hcl : (nI i).toNatClampNeg = i := nI_clamp (by omega)
  obtain ⟨-, r', hr', cellV, g1, g2, g3, -⟩ := hw v _ hv
  have hcls := (hG.1.1 ci _ hc).2
  obtain ⟨kA, comp, k1, k2, k3, -⟩ := (hG.1.2 3 _ rfl).2
  obtain ⟨kC, hkC, -⟩ := hcls.2
  have hasg : s.vm.assignable (G.1.1 ci) comp = true := by
    rcases hcast with h | h
    · have e3 : comp = G.1.1 ci := Option.some.inj (k3.symm.trans (by rw [← h]; exact hcls.1))
      rw [e3]; exact va_assign hcls
    · obtain ⟨c0, t0, f1, f2, f3⟩ := Cond.castable_spec (va_Nw.use (A := args) rfl h)
      cases hcls.1.symm.trans f1
      cases k3.symm.trans f2
      exact f3
  obtain ⟨kcomp, hkcomp, -⟩ := Vm.findClass_spec k3
  refine W.aast hexec hb (hw a _ he).2 (fun q h => by cases h) (fun h => by cases h) k1 k2 rfl hkcomp ⟨nI_pos (by omega), by show _ < (arrV _ _ _).slots.size; rw [arrV_size, hcl]; exact hi⟩ g1 (fun q h => by rw [g3] at h; cases h) (by rw [g2]; exact hkC) (by rw [g2]; exact hasg) rfl rfl hdg fun H1 e z oq => ?_
  rw [hcl] at e ⊢
  refine kk H1 _ z (hw.put (hw.ge he) ?_ oq) (hS.put z oq (hw.ge he))
  show H1[a]? = some (vp_cell _ _)
  rw [e]
  rw [vp_cell_q, vp_cell_q, arrV_store]
  congr 2
  funext q
  by_cases hq : q = i
  · subst hq
    simp [updV, va_up, va_rf]
  · simp [updV, va_up, hq]

theorem xcopy (hexec : p.tables.exec = Jvm.exec) (hb : c.code = cc) (hml : c.maxLocals = nL) (hsz : ls.size = nL) {own : String} {index : Nat} (hown : s.vm.findClass own = some m.cls) (hlink : (Cond.methodLink own index arraycopyName).before args s = true) (hnat : (Cond.native arraycopyName).before args s = true) (hstat : (Cond.static arraycopyName).before args s = true) (hini : (Cond.initialized "java/lang/System").before args s = true)
    (hG : GK G s) (hw : PW N0 G w H) (hS : va_S (fun q => N0 ≤ q) H0 H locs) {a0 n0 n1 k : Nat} {f g : Nat → Int32} (he0 : w a0 = some (eI G n0 f)) (he1 : w a = some (eI G n1 g)) (h4 : k ≤ n0) (h5 : k ≤ n1) (hk : k < 2 ^ 31)
    (hframes : 1 ≤ R.frames) (hlocals : (rest.map fun v => v.category).sum + (nativeFrameWords "java/lang/System" "arraycopy" 5 + 11) ≤ R.locals) (hdg : decode cc pc = .ok (.invokestatic index, 3))
    (kk : ∀ (H1 : Heap) (locs1 : List Loc), H1.size = H.size → PW N0 G (wu w a (eI G n1 (va_cpy f g 0 0 k))) H1 → va_S (fun q => N0 ≤ q) H0 H1 locs1 → W p l e R s m args below meth c H1 locs1 cells slots Q (F0 m (pc + 3) ls rest)) : W p l e R s m args below meth c H locs cells slots Q (F0 m pc ls (.int (nI k) :: .int (nI 0) :: .ref a :: .int (nI 0) :: .ref a0 :: rest)) := by
  have hcl : (nI k).toNatClampNeg = k := nI_clamp hk
  have hc0' : (nI 0).toNatClampNeg = 0 := nI_clamp (by omega)
  have hti : (nI k).toInt = (k : Int) := nI_toInt hk
  have ht0 : (nI 0).toInt = 0 := nI_toInt (by omega)
  intro T hT X
  have hc0 : H[a0]? = some (vp_cell G.2.1 (n0, .inl f)) := (hw a0 _ he0).2
  have hc1 : H[a]? = some (vp_cell G.2.1 (n1, .inl g)) := (hw a _ he1).2
  obtain ⟨-, k0, hk0, cm0, hkk0⟩ := (hG.1.2 0 _ rfl).1 n0 (fun j => .int (f j))
  obtain ⟨-, k1, hk1, cm1, hkk1⟩ := (hG.1.2 0 _ rfl).1 n1 (fun j => .int (g j))
  obtain ⟨vm', X', step⟩ := X.arraycopy hexec hown hlink hnat hstat hini (src := a0) (dst := a) (cs := vp_cell G.2.1 (n0, .inl f)) (cd := vp_cell G.2.1 (n1, .inl g)) (srcPos := nI 0) (destPos := nI 0) (n := nI k) (by rw [hT]; exact hc0) (by rw [hT]; exact hc1)
    (fun _ h => by cases h) (fun _ h => by cases h) (fun h => by cases h) (fun h => by cases h) hk0 hk1 hkk0 hkk1 (by simp [refKind]) (nI_pos (by omega)) (nI_pos (by omega)) (nI_pos hk)
    (by rw [ht0, hti]; show ¬ _ > ((arrV G.2.1 n0 (fun j => .int (f j))).slots.size : Int); rw [arrV_size]; omega)
    (by rw [ht0, hti]; show ¬ _ > ((arrV G.2.1 n1 (fun j => .int (g j))).slots.size : Int); rw [arrV_size]; omega)
    (fun vm₁ _ i hi => by
      rw [hcl] at hi
      have e : (vp_cell G.2.1 (n0, .inl f)).slots.getD ((nI 0).toNatClampNeg + i) .null = .int (f i) := by
        rw [hc0', Nat.zero_add]
        show (arrV G.2.1 n0 (fun j => .int (f j))).slots.getD _ _ = _
        rw [Array.getD_eq_getD_getElem?, arrV_read _ _ (by omega)]
        rfl
      refine ⟨?_, ?_⟩
      · rw [e]
        rfl
      · rw [e]
        exact trivial)
    (g := F0 m pc ls (.int (nI k) :: .int (nI 0) :: .ref a :: .int (nI 0) :: .ref a0 :: rest)) rfl (by rw [hml]; exact hsz) (rest := rest) rfl (by rw [hb]; exact hdg) hframes (by show 2 * 0 + _ + _ ≤ _; omega)
  have e1 : copied (vp_cell G.2.1 (n0, .inl f)) (vp_cell G.2.1 (n1, .inl g)) (nI 0) (nI 0) (nI k) = vp_cell G.2.1 (n1, .inl (va_cpy f g 0 0 k)) := by
    have h9 : (nI 0).toNatClampNeg + (nI k).toNatClampNeg ≤ n0 := by rw [hcl, hc0']; omega
    have h8 : copied (vp_cell G.2.1 (n0, .inl f)) (vp_cell G.2.1 (n1, .inl g)) (nI 0) (nI 0) (nI k) = vp_cell G.2.1 (n1, .inl (va_cpy f g (nI 0).toNatClampNeg (nI 0).toNatClampNeg (nI k).toNatClampNeg)) := va_copied (fun z => .int z) G.2.1 G.2.1 f g h9
    rw [hcl, hc0'] at h8
    exact h8
  rw [e1] at X' step
  have hl : a < H.size := (Array.getElem?_eq_some_iff.mp hc1).1
  have hheap : ((T.setVm vm').setCell a (vp_cell G.2.1 (n1, .inl (va_cpy f g 0 0 k)))).heap = H.setIfInBounds a (vp_cell G.2.1 (n1, .inl (va_cpy f g 0 0 k))) := by rw [← hT]; rfl
  have oq : ∀ q : Nat, q ≠ a → (H.setIfInBounds a (vp_cell G.2.1 (n1, .inl (va_cpy f g 0 0 k))))[q]? = H[q]? := fun q hq => by simp [Array.getElem?_setIfInBounds, Ne.symm hq]
  obtain ⟨t, a1, b1⟩ := kk _ _ (by simp) (hw.put (hw.ge he1) (show (H.setIfInBounds a _)[a]? = some _ by simp [Array.getElem?_setIfInBounds, hl]) oq) ⟨by simp; exact hS.1, fun q g1 g2 => by
      rw [oq q (fun e => g2 (by rw [e]; exact hw.ge he1))]
      exact hS.2.1 q g1 g2, fun q hq => by
      rcases List.mem_append.mp hq with h | h
      · exact hS.2.2 q h
      · obtain ⟨z, -, hz⟩ := List.mem_map.mp h
        rw [← hz]
        exact hw.ge he1⟩ _ hheap X'
  exact ⟨t, step t a1, b1⟩
/-- Abbot's super.worth(): Bishop's, which is Person's -/
theorem xsuperWorth {post : Int32 → Wd → Prop} {fs : List Value} (hexec : p.tables.exec = Jvm.exec) (hb : c.code = cc) (hml : c.maxLocals = nL) (hown : s.vm.findClass RX0 = some m.cls) (hM : XM l yX7_worth wsX7_worth rm N0 G [.ref b] w vI post 0 0) (hrm : rm.cells = 0 ∧ rm.slots = 0 ∧ rm.frames + 1 ≤ R.frames ∧ 8 + (1 + 11) + rm.locals ≤ R.locals) (hG : GK G s) (hN : N0 ≤ H0.size ∧ SK N0 G s H0) (hw : PW N0 G w H) (hS : va_S (fun q => N0 ≤ q) H0 H locs) (hrec : w b = some (.inr (0, fs))) (hsize : ls.size = nL) (hstack : st0 = .ref b :: rest) (hW : (rest.map fun v => v.category).sum ≤ 8) (hdg : decode cc pc = .ok (.invokespecial 9, 3)) (hf : cells ≤ R.cells ∧ slots ≤ R.slots)
    (kk : ∀ (r : Int32) (w1 : Wd) (H1 : Heap) (locs1 : List Loc), post r w1 → PW N0 G w1 H1 → va_S (fun q => N0 ≤ q) H0 H1 locs1 → W p l e R s m args below meth c H1 locs1 cells slots Q (F0 m (pc + 3) ls (.int r :: rest))) : W p l e R s m args below meth c H locs cells slots Q (F0 m pc ls st0) := by
  have hE : ∀ x ∈ xext, x.before args s = true := fun x hx => hG.2.2.2 x hx args
  have hpre := xpreV (As := []) hG ⟨Nat.le_trans hN.1 hS.1, hN.2.kept hS⟩ hw hrec (show vwCl[0]? = some (RX0, TX0, 1) from rfl)
  have hK : Back l R p e below s args yX7_worth 3 8 (PreOf R 0 0 (va_Pc [.ref b] (XP N0 G w))) (PostOf (XQ N0 G vI post) 0 0 (fun q => N0 ≤ q)) := back_of (bytes := cX7_worth) (maxL := 1) (ret := some .int) hM hpre.1 hrm.1 hrm.2.1 hrm.2.2.1 hrm.2.2.2 (fun x hx a' U hW => hG.2.2.2.warm hW x (List.mem_append_right _ hx) a') List.mem_cons_self (fun a' U hW => hG.2.2.2.warm hW (.initialized RX7) (by decide +kernel) a')
  obtain ⟨-, ⟨cellB, hcB, hoB, hclB⟩, hPc⟩ := hpre
  obtain ⟨hfc, kB, hkB, -⟩ := (hG.1.1 0 _ rfl).2
  have hcc : G.1.1 0 = cellB.cls := Option.some.inj (hfc.symm.trans hclB)
  rw [hcc] at hkB
  have hinst := hE (.instanceMethod yX7_worth) (by decide +kernel)
  have hcode := hE (.code yX7_worth cX7_worth 1 (some .int)) (by decide +kernel)
  refine xcall (mc := 0) (ms := 0) (val := vI) (post := post) (ar := [Value.ref b].toArray) (rest := rest) ?_ hS kk
  intro T hT X
  obtain ⟨mk, methM, hnamed, hmethM, hstM, habM⟩ := Cond.instanceMethod_spec hinst
  obtain ⟨methM', cM, hmethM', -, -, -, -, -, -, hsigM⟩ := Cond.code_spec hnamed hcode
  cases hmethM.symm.trans hmethM'
  obtain ⟨ps, dk, kp, hps, hdk, hkp, hsuper, -, -, hnid⟩ := Cond.superclass_spec hown (hE (.superclass "LentQuill$Abbot" "LentQuill$Bishop") (by decide +kernel))
  obtain ⟨ps2, dk2, kp2, hps2, hdk2, hkp2, hsuper2, -, -, -⟩ := Cond.superclass_spec hps (hE (.superclass "LentQuill$Bishop" "LentQuill$Person") (by decide +kernel))
  have hpm : ps2 = mk.cls := Option.some.inj (hps2.symm.trans (findClass_of_methodNamed hnamed))
  have hsub : s.vm.isSubclass ps mk.cls = true := by
    rw [← hpm]
    have hlt : ps < s.vm.classes.size := (Array.getElem?_eq_some_iff.mp hdk2).1
    obtain ⟨z, hz⟩ : ∃ z, s.vm.classes.size = z + 1 := ⟨_, (Nat.succ_pred_eq_of_pos (Nat.lt_of_le_of_lt (Nat.zero_le _) hlt)).symm⟩
    simp [Vm.isSubclass, Vm.isSubclassAux, hz, hdk2, hsuper2]
  have hn : s.methodNamed? ⟨"LentQuill$Person", "worth", "()I"⟩ = some mk := hnamed
  obtain ⟨vm₁, X₁, hstep₁⟩ := X.invokespecialUp hexec hown (hE (.methodLink "LentQuill$Abbot" 9 ⟨"LentQuill$Bishop", "worth", "()I"⟩) (by decide +kernel)) (hE (.sameMethod "LentQuill$Bishop" "LentQuill$Person" "worth" "()I") (by decide +kernel)) hn hmethM hstM habM (by decide) hdk hnid hps hsuper hsub (a := b) (cell := cellB) (by rw [hT]; exact hcB)
    (fun z h => by rw [h] at hoB; cases hoB) hkB (g := F0 m pc ls st0) rfl (argsL := []) (rest := rest) (by
      have h3 : parseMethodDescriptor yX7_worth.desc = some methM.sig := hsigM
      have h4 : (parseMethodDescriptor yX7_worth.desc).map (fun d => d.parameters.length) = some 0 := by decide +kernel
      rw [h3] at h4
      exact (Option.some.inj h4).symm) hstack (by rw [hb]; exact hdg)
  obtain ⟨v, ⟨U', l2, c2, s2⟩, X', ⟨g', mk', t, L, e1, e2, hq, h1, hL, h2, h3⟩, hsteps⟩ := hK m meth c ⟨T.setVm vm₁, locs, cells, slots⟩ { (F0 m pc ls st0) with stack := rest } (.invokespecial 9) mk [Value.ref b].toArray X₁ rfl (hsize.trans hml.symm) (by rw [hb]; exact hdg) (lv_room (m := m) (pc := pc) (ls := ls) (rest := st0) hW) (X₁.named hnamed) ⟨hf.1, hf.2, hPc (T.setVm vm₁) hT X₁.warmed⟩
  dsimp only [Pt.U, Pt.locs, Pt.cells, Pt.slots] at X' e1 e2 h1 h2 h3 hsteps
  subst h1; subst h2; subst h3
  exact ⟨v, (T.setVm vm₁).calling g' mk' [Value.ref b].toArray, t, U', L, hT, X', hL, e1, e2, hq, fun target h => hstep₁ _ (by rw [doInvoke_state]; exact hsteps.trans h)⟩
end XC
