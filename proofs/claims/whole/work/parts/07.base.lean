/-! ===== worlds as functions from addresses to cells ===== -/
abbrev Wd : Type := Nat → Option va_E
def wu (w : Wd) (a : Nat) (e : va_E) : Wd := fun b => if b = a then some e else w b
theorem wu_eq (w : Wd) (a : Nat) (e : va_E) : wu w a e a = some e := by simp [wu]
theorem wu_ne {w : Wd} {a b : Nat} {e : va_E} {r : Option va_E} (h : b ≠ a) (hr : w b = r) : wu w a e b = r := by simp [wu, h, hr]
theorem wu_nq {w : Wd} {a b : Nat} {e : va_E} (h : b ≠ a) : wu w a e b = w b := by simp [wu, h]
/-- the tables' numbers: classes and slots; the classes of int[], byte[], Person[], Pen[]; the text of the kinds' letters, its bytes -/
abbrev XG : Type := va_G × ClassId × ClassId × ClassId × ClassId × Nat × Nat
abbrev gtys (G : XG) : List (ClassId × FieldType) := [(G.2.1, .int), (G.2.2.1, .byte), (G.2.2.2.1, .object "LentQuill$Person"), (G.2.2.2.2.1, .object "LentQuill$Pen")]
abbrev eI (G : XG) (n : Nat) (f : Nat → Int32) : va_E := .inl (G.2.1, n, .inl f)
abbrev eB (G : XG) (n : Nat) (f : Nat → Int32) : va_E := .inl (G.2.2.1, n, .inl f)
abbrev eP (G : XG) (n : Nat) (f : Nat → Option Nat) : va_E := .inl (G.2.2.2.1, n, .inr (.inr (.inr (.inr f))))
abbrev eN (G : XG) (n : Nat) (f : Nat → Option Nat) : va_E := .inl (G.2.2.2.2.1, n, .inr (.inr (.inr (.inr f))))
abbrev eO (ci : Nat) (fs : List Value) : va_E := .inr (ci, fs)
def PW (N0 : Nat) (G : XG) (w : Wd) (H : Heap) : Prop := ∀ (a : Nat) (e : va_E), w a = some e → N0 ≤ a ∧ va_at G.1 vwCl (a, e) H
theorem PW.one {N0 : Nat} {G : XG} {w : Wd} {H : Heap} {a : Nat} {e : va_E} (h : PW N0 G w H) (ha : w a = some e) : va_P G.1 vwCl [(a, e)] H := by
  intro k q hk
  have hz : k < 1 := (List.getElem?_eq_some_iff.mp hk).1
  rw [show k = 0 by omega] at hk
  cases hk
  exact (h a e ha).2
theorem PW.two {N0 : Nat} {G : XG} {w : Wd} {H : Heap} {a b : Nat} {e f : va_E} (h : PW N0 G w H) (ha : w a = some e) (hb : w b = some f) : va_P G.1 vwCl [(a, e), (b, f)] H := (h.one ha).app (h.one hb)
theorem PW.ge {N0 : Nat} {G : XG} {w : Wd} {H : Heap} {a : Nat} {e : va_E} (h : PW N0 G w H) (ha : w a = some e) : N0 ≤ a := (h a e ha).1
theorem PW.lt {N0 : Nat} {G : XG} {w : Wd} {H : Heap} {a : Nat} {e : va_E} (h : PW N0 G w H) (ha : w a = some e) : a < H.size := (h a e ha).2.lt
theorem PW.put {N0 : Nat} {G : XG} {w : Wd} {H H1 : Heap} {a : Nat} {e : va_E} (h : PW N0 G w H) (ha : N0 ≤ a) (he : va_at G.1 vwCl (a, e) H1) (oq : ∀ q : Nat, q ≠ a → H1[q]? = H[q]?) : PW N0 G (wu w a e) H1 := by
  intro b f hb
  by_cases hba : b = a
  · subst hba
    rw [wu_eq] at hb
    cases hb
    exact ⟨ha, he⟩
  · rw [wu_nq hba] at hb
    exact ⟨(h b f hb).1, (h b f hb).2.kept (oq b hba)⟩
theorem PW.new {N0 : Nat} {G : XG} {w : Wd} {H H1 : Heap} {e : va_E} (h : PW N0 G w H) (ha : N0 ≤ H.size) (he : va_at G.1 vwCl (H.size, e) H1) (oq : ∀ q : Nat, q < H.size → H1[q]? = H[q]?) : PW N0 G (wu w H.size e) H1 := by
  intro b f hb
  by_cases hba : b = H.size
  · subst hba
    rw [wu_eq] at hb
    cases hb
    exact ⟨ha, he⟩
  · rw [wu_nq hba] at hb
    exact ⟨(h b f hb).1, (h b f hb).2.kept (oq b (h.lt hb))⟩
theorem PW.fresh {N0 : Nat} {G : XG} {w : Wd} {H : Heap} (h : PW N0 G w H) {a : Nat} (ha : H.size ≤ a) : w a = none := by
  cases hw : w a with
  | none => rfl
  | some e => exact absurd (h.lt hw) (by omega)
/-- what is known of the tables in every state -/
def xnests : List Cond := [
  .methodLinkNest "LentQuill" 9 ⟨"LentQuill$Page", "<init>", "()V"⟩ "LentQuill",
  .methodLinkNest "LentQuill" 18 ⟨"LentQuill$Town", "<init>", "()V"⟩ "LentQuill",
  .methodLinkNest "LentQuill$Books" 24 ⟨"LentQuill$Pen", "<init>", "()V"⟩ "LentQuill",
  .methodLinkNest "LentQuill" 35 ⟨"LentQuill$Search", "<init>", "()V"⟩ "LentQuill",
  .methodLinkNest "LentQuill$Search" 11 ⟨"LentQuill$Pen", "<init>", "()V"⟩ "LentQuill",
  .methodLinkNest "LentQuill" 42 ⟨"LentQuill$Fair", "<init>", "()V"⟩ "LentQuill",
  .methodLinkNest "LentQuill$Town" 96 ⟨"LentQuill", "holds", "(II)Z"⟩ "LentQuill",
  .methodLinkNest "LentQuill$Books" 74 ⟨"LentQuill", "holds", "(II)Z"⟩ "LentQuill",
  .methodLinkNest "LentQuill$Books" 81 ⟨"LentQuill", "shareOf", "(II)I"⟩ "LentQuill",
  .methodLinkNest "LentQuill$Search" 83 ⟨"LentQuill", "holds", "(II)Z"⟩ "LentQuill",
  .methodLinkNest "LentQuill$Fair" 60 ⟨"LentQuill", "holds", "(II)Z"⟩ "LentQuill",
  .methodLinkNest "LentQuill$Fair" 64 ⟨"LentQuill", "shareOf", "(II)I"⟩ "LentQuill"]
/-- which kinds are which: (object's class, asked class): no cast -/
def xnocast : List (String × String) := [
  ("LentQuill$Person", "LentQuill$Bishop"), ("LentQuill$Person", "LentQuill$Thief"), ("LentQuill$Person", "LentQuill$Boy"), ("LentQuill$Person", "LentQuill$Abbot"),
  ("LentQuill$Bishop", "LentQuill$Thief"), ("LentQuill$Bishop", "LentQuill$Boy"), ("LentQuill$Bishop", "LentQuill$Abbot"),
  ("LentQuill$Thief", "LentQuill$Bishop"), ("LentQuill$Thief", "LentQuill$Boy"), ("LentQuill$Thief", "LentQuill$Abbot"),
  ("LentQuill$Boy", "LentQuill$Bishop"), ("LentQuill$Boy", "LentQuill$Thief"), ("LentQuill$Boy", "LentQuill$Abbot"),
  ("LentQuill$Abbot", "LentQuill$Thief"), ("LentQuill$Abbot", "LentQuill$Boy")]
theorem xwarm {s U : State} (hW : s.WarmedH U.vm) (h : ∀ x ∈ xnests, va_Nw x s) : ∀ x ∈ xnests, va_Nw x U := by
  intro x hx
  have h1 := h x hx
  simp only [xnests, List.mem_cons, List.not_mem_nil, or_false] at hx
  rcases hx with rfl | rfl | rfl | rfl | rfl | rfl | rfl | rfl | rfl | rfl | rfl | rfl <;> exact va_Nw.warmM hW h1
/-- words for Abbot's super.worth(), which the printed words leave out -/
def xext : List Cond := [.methodLink "LentQuill$Abbot" 9 ⟨"LentQuill$Bishop", "worth", "()I"⟩, .sameMethod "LentQuill$Bishop" "LentQuill$Person" "worth" "()I", .superclass "LentQuill$Abbot" "LentQuill$Bishop", .superclass "LentQuill$Bishop" "LentQuill$Person", .instanceMethod yX7_worth, .initialized RX7] ++ wsX7_worth
theorem xext_good : xext.all goodWord = true := by decide +kernel
def XE (U : State) : Prop := ∀ x ∈ xext, ∀ A : Array Value, x.before A U = true
theorem XE.warm {s U : State} (hW : s.WarmedH U.vm) (h : XE s) : XE U := fun x hx A => word_at hW (good_of_word (List.all_eq_true.mp xext_good x hx)) (h x hx A)
theorem xext_tab : xext.all (fun x => x.onTables) = true := by decide +kernel
theorem XE.same {s U : State} (hv : s.vm = U.vm) (h : XE s) : XE U := fun x hx A => va_tabs (List.all_eq_true.mp xext_tab x hx) hv (h x hx A)
def GK0 (G : XG) (U : State) : Prop := va_K G.1 vwCl (gtys G) U ∧ (∀ x ∈ xnests, va_Nw x U) ∧ (∀ q ∈ xnocast, va_Nc q.1 q.2 U) ∧ va_Nw (.castable "LentQuill$Abbot" "LentQuill$Bishop") U ∧ va_AO "LentQuill$Person" U ∧ va_AO "LentQuill$Pen" U ∧ va_Nw (.castable "LentQuill$Bishop" "LentQuill$Person") U ∧ va_Nw (.castable "LentQuill$Thief" "LentQuill$Person") U ∧ va_Nw (.castable "LentQuill$Boy" "LentQuill$Person") U ∧ va_Nw (.castable "LentQuill$Abbot" "LentQuill$Person") U
theorem GK0.warm {G : XG} {s U : State} (hW : s.WarmedH U.vm) (h : GK0 G s) : GK0 G U :=
  ⟨va_K.moved hW.alike h.1, xwarm hW h.2.1, fun q hq => (h.2.2.1 q hq).moved hW.alike, va_Nw.warmC hW h.2.2.2.1, h.2.2.2.2.1.moved hW.alike, h.2.2.2.2.2.1.moved hW.alike, va_Nw.warmC hW h.2.2.2.2.2.2.1, va_Nw.warmC hW h.2.2.2.2.2.2.2.1, va_Nw.warmC hW h.2.2.2.2.2.2.2.2.1, va_Nw.warmC hW h.2.2.2.2.2.2.2.2.2⟩
theorem GK0.same {G : XG} {s U : State} (hv : s.vm = U.vm) (h : GK0 G s) : GK0 G U :=
  have ha : s.vm.Alike U.vm := by rw [← hv]; exact Vm.Alike.refl s.vm
  ⟨va_K.moved ha h.1, fun x hx => va_Nw.same (by
    simp only [xnests, List.mem_cons, List.not_mem_nil, or_false] at hx
    rcases hx with rfl | rfl | rfl | rfl | rfl | rfl | rfl | rfl | rfl | rfl | rfl | rfl <;> rfl) hv (h.2.1 x hx), fun q hq => (h.2.2.1 q hq).moved ha, va_Nw.same rfl hv h.2.2.2.1, h.2.2.2.2.1.moved ha, h.2.2.2.2.2.1.moved ha, va_Nw.same rfl hv h.2.2.2.2.2.2.1, va_Nw.same rfl hv h.2.2.2.2.2.2.2.1, va_Nw.same rfl hv h.2.2.2.2.2.2.2.2.1, va_Nw.same rfl hv h.2.2.2.2.2.2.2.2.2⟩
def GK (G : XG) (U : State) : Prop := va_K G.1 vwCl (gtys G) U ∧ (∀ x ∈ xnests, va_Nw x U) ∧ GK0 G U ∧ XE U
theorem GK.warm {G : XG} {s U : State} (hW : s.WarmedH U.vm) (h : GK G s) : GK G U := ⟨va_K.moved hW.alike h.1, xwarm hW h.2.1, h.2.2.1.warm hW, h.2.2.2.warm hW⟩
theorem GK.same {G : XG} {s U : State} (hv : s.vm = U.vm) (h : GK G s) : GK G U := ⟨(h.2.2.1.same hv).1, (h.2.2.1.same hv).2.1, h.2.2.1.same hv, h.2.2.2.same hv⟩
/-- the letters of the kinds -/
def ltr (j : Nat) : Nat := if j = 0 then 112 else if j = 1 then 98 else if j = 2 then 116 else if j = 3 then 121 else 97
/-- the text of the kinds' letters, as it stands below the base -/
def SK (N0 : Nat) (G : XG) (U : State) (H : Heap) : Prop :=
  (vk_R "LentQuill$Page" 34 "pbtya" G.2.2.2.2.2.1 U ∧ vk_R "LentQuill$Town" 43 "pbtya" G.2.2.2.2.2.1 U) ∧ va_O "java/lang/String" G.2.2.2.2.2.1 (fun q => N0 ≤ q) U H ∧ va_OF "java/lang/String" "coder" "B" (.int 0) G.2.2.2.2.2.1 (fun q => N0 ≤ q) U H ∧ va_OF "java/lang/String" "value" "[B" (.ref G.2.2.2.2.2.2) G.2.2.2.2.2.1 (fun q => N0 ≤ q) U H ∧ va_T .byte G.2.2.2.2.2.2 5 (fun j => .int (nI (ltr j))) (fun q => N0 ≤ q) U H ∧ va_Z "java/lang/String" "COMPACT_STRINGS" "Z" (.int 1) (fun q => N0 ≤ q) U H
theorem SK.warm {N0 : Nat} {G : XG} {s U : State} {H : Heap} (hW : s.WarmedH U.vm) (h : SK N0 G s H) : SK N0 G U H :=
  ⟨⟨h.1.1.warm hW, h.1.2.warm hW⟩, h.2.1.moved hW.alike, h.2.2.1.moved hW.alike, h.2.2.2.1.moved hW.alike, h.2.2.2.2.1.moved hW.alike, h.2.2.2.2.2.moved hW.alike⟩
theorem SK.same {N0 : Nat} {G : XG} {s U : State} {H : Heap} (hv : s.vm = U.vm) (h : SK N0 G s H) : SK N0 G U H :=
  have ha : s.vm.Alike U.vm := by rw [← hv]; exact Vm.Alike.refl s.vm
  ⟨⟨vk_R.same hv.symm h.1.1, vk_R.same hv.symm h.1.2⟩, h.2.1.moved ha, h.2.2.1.moved ha, h.2.2.2.1.moved ha, h.2.2.2.2.1.moved ha, h.2.2.2.2.2.moved ha⟩
theorem SK.kept {N0 : Nat} {G : XG} {s : State} {H H1 : Heap} {locs : List Loc} (h : SK N0 G s H) (hS : va_S (fun q => N0 ≤ q) H H1 locs) : SK N0 G s H1 :=
  ⟨h.1, h.2.1.kept hS.2.1, h.2.2.1.kept hS.2.1, h.2.2.2.1.kept hS.2.1, h.2.2.2.2.1.kept hS.2.1, h.2.2.2.2.2.kept hS.2.1⟩
/-- a contract's start: the base and the text, the world, the tables -/
def XP (N0 : Nat) (G : XG) (w : Wd) (U : State) : Prop := (N0 ≤ U.heap.size ∧ SK N0 G U U.heap) ∧ PW N0 G w U.heap ∧ GK G U
/-- a contract's end -/
def XQ {ρ : Type} (N0 : Nat) (G : XG) (val : ρ → Option Value) (post : ρ → Wd → Prop) : Array Value → State → Outcome → State → Prop := fun _ st oc t => (∃ (r : ρ) (w1 : Wd), oc = .returned (val r) ∧ post r w1 ∧ PW N0 G w1 t.heap) ∧ va_F (fun q => N0 ≤ q) st t
abbrev vI (r : Int32) : Option Value := some (.int r)
abbrev vL (r : Int64) : Option Value := some (.long r)
abbrev vV (_ : Unit) : Option Value := none
abbrev vR (r : Option Nat) : Option Value := some (va_rf r)
/-- a method's contract, that makes at most mc cells of ms slots -/
def XM {ρ : Type} (l : Launch) (y : MethodName) (ws : List Cond) (rm : Room) (N0 : Nat) (G : XG) (av : List Value) (w : Wd) (val : ρ → Option Value) (post : ρ → Wd → Prop) (mc ms : Nat) : Prop :=
  Met l y ws rm (va_Pc av (XP N0 G w)) (XQ N0 G val post) mc ms (fun q => N0 ≤ q)
abbrev rmD (d : Nat) : Room := { frames := d, cells := 0, slots := 0, locals := 40 * d }
abbrev rmA (d mc ms : Nat) : Room := { frames := d, cells := mc, slots := ms, locals := 40 * d }
theorem XP.blind {N0 : Nat} {G : XG} {w : Wd} {av : List Value} : FrameBlind (va_Pc av (XP N0 G w)) := by
  intro a U g mk q
  obtain ⟨q0, ⟨q1, q4⟩, q2, q3⟩ := q
  exact ⟨q0, ⟨q1, SK.same (s := U) (U := U.calling g mk a) rfl q4⟩, q2, GK.same (s := U) (U := U.calling g mk a) rfl q3⟩
theorem XM.of {ρ : Type} {l : Launch} {y : MethodName} {ws ws' : List Cond} {rm : Room} {N0 : Nat} {G : XG} {av : List Value} {w : Wd} {val : ρ → Option Value} {post : ρ → Wd → Prop} {mc ms : Nat} {cc : ByteArray} {maxL : Nat} {ret : Option FieldType}
    (hy : plainName y.cls = true) (hw : ws = Cond.code y cc maxL ret :: ws') (hlen : (lg_sl av).length ≤ maxL)
    (body : ∀ p e s m below meth c, p.tables.exec = Jvm.exec → c.code = cc → meth.sig.returnType = ret → meth.locks = false → (y.name = "<init>" → meth.name = "<init>") → c.maxLocals = maxL → s.vm.findClass y.cls = some m.cls → (∀ x ∈ ws, x.before av.toArray s = true) → (N0 ≤ s.heap.size ∧ SK N0 G s s.heap) → PW N0 G w s.heap → GK G s → va_S (fun q => N0 ≤ q) s.heap s.heap [] → ∀ ls, lv_has ls maxL (lv_args 0 av) →
      W p l e rm s m av.toArray below meth c s.heap [] 0 0 (MQ below (XQ N0 G val post) av.toArray s mc ms (fun q => N0 ≤ q)) (F0 m 0 ls [])) : XM l y ws rm N0 G av w val post mc ms := by
  refine Met.ofW (cc := cc) (maxL := maxL) (ret := ret) hy hw ?_
  intro p e s m args below meth c s₁ B hml hv
  obtain ⟨rfl, hN, hP, hG⟩ := hv
  have hl := lv_entry av (n := maxL) hlen
  rw [lg_entry_eq]
  generalize (lg_sl av ++ List.replicate (maxL - (lg_sl av).length) Slot.unset).toArray = ls at hl ⊢
  exact body p e s m below meth c B.exec B.bytes B.returns B.notSynchronized (fun h => (name_of_methodNamed B.named B.method).1.trans h) hml (findClass_of_methodNamed B.named) (atoms_spec (ws := ws) B.pre) hN hP hG va_S.rf ls hl
