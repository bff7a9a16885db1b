theorem q_get_cons (row : List q_C) (h : q_H) (r : Nat) : q_get (row :: h) r = if r < 16 then row[r]? else q_get h (r - 16) := by
  unfold q_get
  by_cases c : r < 16
  · rw [if_pos c, Nat.div_eq_of_lt c, Nat.mod_eq_of_lt c]
    rfl
  · rw [if_neg c]
    have e1 : r / 16 = (r - 16) / 16 + 1 := by omega
    have e2 : r % 16 = (r - 16) % 16 := by omega
    rw [e1, e2, List.getElem?_cons_succ]
theorem q_get_push {c : q_C} : ∀ {h : q_H} {r : Nat}, q_full h → q_get (q_push h c) r = if r = q_cnt h then some c else q_get h r
  | [], r, _ => by
    show q_get [[c]] r = if r = 0 then some c else q_get [] r
    rw [q_get_cons]
    by_cases e : r = 0
    · subst e; rfl
    · rw [if_neg e]
      have h0 : q_get [] r = none := by simp [q_get]
      have h1 : q_get [] (r - 16) = none := by simp [q_get]
      rw [h0, h1]
      split
      · cases r with
        | zero => exact absurd rfl e
        | succ r => rfl
      · rfl
  | [row], r, hf => by
    have hf : row.length ≤ 16 := hf
    show q_get (if row.length < 16 then [row ++ [c]] else [row, [c]]) r = if r = row.length then some c else q_get [row] r
    have h1 : q_get [] (r - 16) = none := by simp [q_get]
    by_cases hl : row.length < 16
    · rw [if_pos hl, q_get_cons, q_get_cons, h1, List.getElem?_append]
      by_cases e : r = row.length
      · subst e
        rw [if_pos hl, if_pos rfl, if_neg (Nat.lt_irrefl _)]
        simp
      · rw [if_neg e]
        by_cases hr : r < 16
        · rw [if_pos hr, if_pos hr]
          by_cases h2 : r < row.length
          · rw [if_pos h2]
          · rw [if_neg h2, List.getElem?_eq_none (by simp; omega), List.getElem?_eq_none (by omega)]
        · rw [if_neg hr, if_neg hr]
    · rw [if_neg hl, q_get_cons, q_get_cons, q_get_cons]
      have hl : row.length = 16 := by omega
      rw [hl]
      by_cases hr : r < 16
      · rw [if_pos hr, if_pos hr, if_neg (by omega)]
      · rw [if_neg hr, if_neg hr, h1]
        by_cases e : r = 16
        · subst e; rfl
        · rw [if_neg e]
          have h2 : q_get [] (r - 16 - 16) = none := by simp [q_get]
          rw [h2]
          split
          · have : r - 16 = (r - 17) + 1 := by omega
            rw [this]
            rfl
          · rfl
  | row :: r2 :: h, r, hf => by
    have hf : row.length = 16 ∧ q_full (r2 :: h) := hf
    show q_get (row :: q_push (r2 :: h) c) r = if r = 16 + q_cnt (r2 :: h) then some c else q_get (row :: r2 :: h) r
    rw [q_get_cons, q_get_cons row]
    by_cases hr : r < 16
    · rw [if_pos hr, if_pos hr, if_neg (by omega)]
    · rw [if_neg hr, if_neg hr, q_get_push hf.2]
      by_cases e : r - 16 = q_cnt (r2 :: h)
      · rw [if_pos e, if_pos (by omega)]
      · rw [if_neg e, if_neg (by omega)]
theorem q_push_ne {c : q_C} : ∀ {h : q_H}, ∃ row t, q_push h c = row :: t
  | [] => ⟨_, _, rfl⟩
  | [row] => by
    show ∃ r t, (if row.length < 16 then [row ++ [c]] else [row, [c]]) = r :: t
    split <;> exact ⟨_, _, rfl⟩
  | row :: r2 :: h => ⟨_, _, rfl⟩
theorem q_cnt_push {c : q_C} : ∀ {h : q_H}, q_full h → q_cnt (q_push h c) = q_cnt h + 1 ∧ q_full (q_push h c)
  | [], _ => ⟨rfl, (by simp : ([c] : List q_C).length ≤ 16)⟩
  | [row], hf => by
    have hf : row.length ≤ 16 := hf
    show q_cnt (if row.length < 16 then [row ++ [c]] else [row, [c]]) = row.length + 1 ∧ q_full (if row.length < 16 then [row ++ [c]] else [row, [c]])
    by_cases hl : row.length < 16
    · rw [if_pos hl]
      refine ⟨?_, ?_⟩
      · show (row ++ [c]).length = _
        simp
      · show (row ++ [c]).length ≤ 16
        simp
        omega
    · rw [if_neg hl]
      refine ⟨?_, ?_, ?_⟩
      · show 16 + 1 = _
        omega
      · show row.length = 16
        omega
      · show ([c] : List q_C).length ≤ 16
        simp
  | row :: r2 :: h, hf => by
    have hf : row.length = 16 ∧ q_full (r2 :: h) := hf
    obtain ⟨h1, h2⟩ := q_cnt_push (c := c) hf.2
    obtain ⟨r3, t, e⟩ := q_push_ne (c := c) (h := r2 :: h)
    show q_cnt (row :: q_push (r2 :: h) c) = 16 + q_cnt (r2 :: h) + 1 ∧ q_full (row :: q_push (r2 :: h) c)
    rw [e] at h1 h2 ⊢
    exact ⟨by show 16 + q_cnt (r3 :: t) = _; omega, hf.1, h2⟩
theorem q_cnt_put {r : Nat} {c : q_C} : ∀ {h : q_H}, q_cnt (q_put h r c) = q_cnt h ∧ (q_full h → q_full (q_put h r c)) := by
  have key : ∀ (h : q_H) (k j : Nat), q_cnt (h.modify k (fun row => row.set j c)) = q_cnt h ∧ (q_full h → q_full (h.modify k (fun row => row.set j c))) := by
    intro h
    induction h with
    | nil => intro k j; cases k <;> exact ⟨rfl, id⟩
    | cons row h ih =>
      intro k j
      cases k with
      | zero =>
        rw [List.modify_zero_cons]
        cases h with
        | nil => exact ⟨List.length_set, fun q => by show (row.set j c).length ≤ 16; rw [List.length_set]; exact q⟩
        | cons r2 h => exact ⟨rfl, fun q => ⟨by rw [List.length_set]; exact q.1, q.2⟩⟩
      | succ k =>
        rw [List.modify_succ_cons]
        cases h with
        | nil => cases k <;> exact ⟨rfl, id⟩
        | cons r2 h =>
          have := ih k j
          cases k with
          | zero =>
            rw [List.modify_zero_cons] at this ⊢
            exact ⟨by show 16 + _ = 16 + _; rw [this.1], fun q => ⟨q.1, this.2 q.2⟩⟩
          | succ k =>
            rw [List.modify_succ_cons] at this ⊢
            exact ⟨by show 16 + _ = 16 + _; rw [this.1], fun q => ⟨q.1, this.2 q.2⟩⟩
  exact fun {h} => key h _ _
/-- what the start gives of the static cells: the script (0), the row of children (1), the row of longs (2), the text (3) with its bytes (4) -/
def q_chi (i : Nat) : Nat := [0, 0, 1, 2, 2].getD i 0
def q_whe (i : Nat) : Nat := [0xAAAAAAAAAAAAAAAA, 0xCCCCCCCCCCCCCCCC, 0xF0F0F0F0F0F0F0F0, 0xFF00FF00FF00FF00, 0xFFFF0000FFFF0000, 0xFFFFFFFF00000000].getD i 0
def q_txt : String := "t0=dcab;t1=ccb;t2=edabca;m0b=1;m0c=01;m0d=0110;m1a=1;m1d=0001;r00a*=b;r00b*=ca;r00c*=d0x1x;r00d0=e1y0x;r00d1=c0x;r01a*=a;r01c*=1x;r10a*=a;r10b*=cb;r10c*=0x;r10d*=d1x0y;r11a*=b;r11b*=a;"
def q_let : List Nat := [116, 48, 61, 100, 99, 97, 98, 59, 116, 49, 61, 99, 99, 98, 59, 116, 50, 61, 101, 100, 97, 98, 99, 97, 59, 109, 48, 98, 61, 49, 59, 109, 48, 99, 61, 48, 49, 59, 109, 48, 100, 61, 48, 49, 49, 48, 59, 109, 49, 97, 61, 49, 59, 109, 49, 100, 61, 48, 48, 48, 49, 59, 114, 48, 48, 97, 42, 61, 98, 59, 114, 48, 48, 98, 42, 61, 99, 97, 59, 114, 48, 48, 99, 42, 61, 100, 48, 120, 49, 120, 59, 114, 48, 48, 100, 48, 61, 101, 49, 121, 48, 120, 59, 114, 48, 48, 100, 49, 61, 99, 48, 120, 59, 114, 48, 49, 97, 42, 61, 97, 59, 114, 48, 49, 99, 42, 61, 49, 120, 59, 114, 49, 48, 97, 42, 61, 97, 59, 114, 49, 48, 98, 42, 61, 99, 98, 59, 114, 49, 48, 99, 42, 61, 48, 120, 59, 114, 49, 48, 100, 42, 61, 100, 49, 120, 48, 121, 59, 114, 49, 49, 97, 42, 61, 98, 59, 114, 49, 49, 98, 42, 61, 97, 59]
/-- words of nest mates: they are kept beside the others -/
def q_isN : Cond → Bool
  | .fieldLinkNest _ _ _ _ _ _ => true
  | .methodLinkNest _ _ _ _ => true
  | .declares _ => true
  | _ => false
def q_nst : List Cond := lw_tbl.filter q_isN
theorem q_nst_w {s U : State} (hW : s.WarmedH U.vm) {w : Cond} (hw : w ∈ q_nst) (h : va_Nw w s) : va_Nw w U := by
  have h1 : q_isN w = true := (List.mem_filter.mp hw).2
  cases w with
  | fieldLinkNest a b c d e f => exact h.warmF hW
  | methodLinkNest a b c d => exact h.warmM hW
  | declares a => exact h.warmD hW
  | _ => cases h1
theorem q_nst_on {w : Cond} (hw : w ∈ q_nst) : w.onTables = true := by
  have h1 : q_isN w = true := (List.mem_filter.mp hw).2
  cases w with
  | fieldLinkNest a b c d e f => rfl
  | methodLinkNest a b c d => rfl
  | declares a => rfl
  | _ => cases h1
def q_St (E : q_E) (A : Nat → Prop) (U : State) (H : Heap) : Prop :=
  (va_X (E.2.2.1 0) E.2.2.2.2 (fun k => nI (E.2.2.2.1 k)) U H ∧ E.2.2.1 0 < H.size ∧ ¬ A (E.2.2.1 0)) ∧
  (va_Z "TreePasses" "CHILDREN" "[I" (.ref (E.2.2.1 1)) A U H ∧ va_T .int (E.2.2.1 1) 5 (fun i => .int (nI (q_chi i))) A U H) ∧
  (va_Z "TreePasses" "WHERE" "[J" (.ref (E.2.2.1 2)) A U H ∧ va_T .long (E.2.2.1 2) 6 (fun i => .long (lN (q_whe i))) A U H) ∧
  (vk_R "TreePasses" 76 q_txt (E.2.2.1 3) U ∧ vk_S 1 [q_let.length] [q_let.map nI] (fun _ => E.2.2.1 3) (fun _ => E.2.2.1 4) A U H ∧ va_Z "java/lang/String" "COMPACT_STRINGS" "Z" (.int 1) A U H ∧ va_Zq "jdk/internal/util/Preconditions" "SIOOBE_FORMATTER" "Ljava/util/function/BiFunction;" A U H) ∧
  (∀ w ∈ q_nst, va_Nw w U) ∧ va_AO RX2 U
theorem q_St_to {E : q_E} {A B : Nat → Prop} {s U : State} {H : Heap} {locs : List Loc} (h : q_St E A s s.heap) (hW : s.WarmedH U.vm) (hS : va_S A s.heap H locs) (hAB : ∀ q, B q → A q) : q_St E B U H := by
  obtain ⟨⟨a1, a2, a3⟩, ⟨b1, b2⟩, ⟨c1, c2⟩, ⟨d1, d2, d3, d4⟩, n1, n2⟩ := h
  have hq := hS.2.1
  have ha := hW.alike
  refine ⟨⟨(a1.kept (hq _ a2 a3)).moved ha, Nat.lt_of_lt_of_le a2 hS.1, fun z => a3 (hAB _ z)⟩, ⟨((b1.kept hq).moved ha).narrow hAB, ((b2.kept hq).moved ha).narrow hAB⟩, ⟨((c1.kept hq).moved ha).narrow hAB, ((c2.kept hq).moved ha).narrow hAB⟩, ⟨d1.warm hW, ((d2.kept hq).moved ha).narrow hAB, ((d3.kept hq).moved ha).narrow hAB, d4.elim (fun z => Or.inl (((z.kept hq).moved ha).narrow hAB)) (fun z => z.elim (fun t z => Or.inr ⟨t, ((z.kept hq).moved ha).narrow hAB⟩))⟩, fun w hw => q_nst_w hW hw (n1 w hw), n2.moved ha⟩
def q_gd : List Cond := lw_tbl.filter goodWord
def q_Cx (E : q_E) (M : q_M) (p : Program) (R : Room) (s : State) (m : MethodId) (args : Array Value) (meth : Method) (c : Code) (A : Nat → Prop) : Prop :=
  (p.tables.exec = Jvm.exec ∧ c.code = M.2.1) ∧ c.maxLocals = M.2.2.1 ∧ meth.sig.returnType = M.2.2.2.1 ∧ meth.locks = false ∧ s.vm.findClass M.1.cls = some m.cls ∧ (∀ w ∈ q_gd, w.before args s = true) ∧ meth.name = M.1.name ∧ R = M.2.2.2.2 ∧ q_St E A s s.heap ∧ (∀ q, s.heap.size ≤ q → A q)
def q_At (E : q_E) (nL : Nat) (s : State) (A : Nat → Prop) (ad0 : List Nat) (lo : q_Lo) (st : List q_V) (h : q_H) (H : Heap) (locs : List Loc) (ls : Array Slot) (stv : List Value) : Prop :=
  ∃ (ad : List Nat) (tys : List (ClassId × FieldType)) (ws : va_W) (lv : List (Nat × Value)), (∃ z, ad = ad0 ++ z) ∧ va_K E.2.1 q_cl tys s ∧ (lv_has ls nL lv ∧ q_lr E ad lo lv) ∧ q_sr E ad st stv ∧ q_hr tys ad h ws ∧ va_P E.2.1 q_cl ws H ∧ va_D A ws ∧ va_S A s.heap H locs
/-- the instruction that returns this value -/
def q_ri (cc : ByteArray) (rt : Option FieldType) (pc : Nat) : Option q_V → Prop
  | none => decode cc pc = .ok (.return_, 1) ∧ rt = none
  | some (.inl n) => decode cc pc = .ok (.ireturn, 1) ∧ (rt = some .int ∨ ∃ ty, rt = some ty ∧ narrow ty (.int (nI n)) = .int (nI n))
  | some (.inr (.inl _)) => decode cc pc = .ok (.areturn, 1) ∧ ∃ n, rt = some (.object n)
  | some (.inr (.inr (.inl _))) => decode cc pc = .ok (.lreturn, 1) ∧ rt = some .long
  | some (.inr (.inr (.inr (.inl _)))) => decode cc pc = .ok (.ireturn, 1) ∧ rt = some .int
  | _ => False
def q_Rt (E : q_E) (M : q_M) (Q : Option q_V → q_H → Prop) (p : Program) (e : Env) (R : Room) (s : State) (m : MethodId) (args : Array Value) (below : List Frame) (meth : Method) (c : Code) (A : Nat → Prop) (ad0 : List Nat) (Z : State → Prop) : Prop :=
  ∀ (pc : Nat) (ls : Array Slot) (r : Option q_V) (stv : List Value) (h : q_H) (H : Heap) (locs : List Loc) (ce sl : Nat), q_ri M.2.1 M.2.2.2.1 pc r → q_At E M.2.2.1 s A ad0 [] r.toList h H locs ls stv → Q r h → ce ≤ R.cells → sl ≤ R.slots → W p E.1 e R s m args below meth c H locs ce sl Z (F0 m pc ls stv)
def q_W (E : q_E) (M : q_M) (Q : Option q_V → q_H → Prop) (pc : Nat) (lo : q_Lo) (st : List q_V) (ce sl : Nat) (h : q_H) : Prop :=
  ∀ (p : Program) (e : Env) (R : Room) (s : State) (m : MethodId) (args : Array Value) (below : List Frame) (meth : Method) (c : Code) (A : Nat → Prop) (ad0 : List Nat) (Z : State → Prop) (H : Heap) (locs : List Loc) (ls : Array Slot) (stv : List Value),
    q_Cx E M p R s m args meth c A → q_At E M.2.2.1 s A ad0 lo st h H locs ls stv → q_Rt E M Q p e R s m args below meth c A ad0 Z → W p E.1 e R s m args below meth c H locs ce sl Z (F0 m pc ls stv)
theorem q_W.go {E : q_E} {M : q_M} {Q : Option q_V → q_H → Prop} {pc : Nat} {lo : q_Lo} {st : List q_V} {ce sl : Nat} {h : q_H} (k : q_W E M Q pc lo st ce sl h) {p : Program} {e : Env} {R : Room} {s : State} {m : MethodId} {args : Array Value} {below : List Frame} {meth : Method} {c : Code} {A : Nat → Prop} {ad0 : List Nat} {Z : State → Prop} {H : Heap} {locs : List Loc} {ls : Array Slot} {stv : List Value} (C : q_Cx E M p R s m args meth c A) (T : q_At E M.2.2.1 s A ad0 lo st h H locs ls stv) (Rt : q_Rt E M Q p e R s m args below meth c A ad0 Z) : W p E.1 e R s m args below meth c H locs ce sl Z (F0 m pc ls stv) :=
  k p e R s m args below meth c A ad0 Z H locs ls stv C T Rt
/-- a word of a nest mate, at the frame's start -/
theorem q_Cx_nst {E : q_E} {M : q_M} {p : Program} {R : Room} {s : State} {m : MethodId} {args : Array Value} {meth : Method} {c : Code} {A : Nat → Prop} (C : q_Cx E M p R s m args meth c A) {w : Cond} (hw : w ∈ q_nst) : w.before args s = true :=
  (C.2.2.2.2.2.2.2.2.1.2.2.2.2.1 w hw).use (q_nst_on hw)
