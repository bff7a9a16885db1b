/-- a block of words copied from one row into another -/
def q_cp (d s sp dp n : Nat) : Nat := d ^^^ ((((d >>> (64 * dp)) % 2 ^ (64 * n)) ^^^ ((s >>> (64 * sp)) % 2 ^ (64 * n))) <<< (64 * dp))
theorem q_rd_cp (d s sp dp n j : Nat) : q_rd (q_cp d s sp dp n) j = if dp ≤ j ∧ j < dp + n then q_rd s (sp + (j - dp)) else q_rd d j := by
  apply Nat.eq_of_testBit_eq
  intro b
  rw [q_rd_bit]
  unfold q_cp
  rw [Nat.testBit_xor, Nat.testBit_shiftLeft, Nat.testBit_xor, Nat.testBit_mod_two_pow, Nat.testBit_mod_two_pow, Nat.testBit_shiftRight, Nat.testBit_shiftRight]
  by_cases hb : b < 64
  · by_cases h : dp ≤ j ∧ j < dp + n
    · rw [if_pos h, q_rd_bit]
      have h1 : 64 * j + b ≥ 64 * dp := by omega
      have h2 : 64 * j + b - 64 * dp < 64 * n := by omega
      have h3 : 64 * dp + (64 * j + b - 64 * dp) = 64 * j + b := by omega
      have h4 : 64 * sp + (64 * j + b - 64 * dp) = 64 * (sp + (j - dp)) + b := by omega
      simp [hb, h1, h2, h3, h4]
    · rw [if_neg h, q_rd_bit]
      by_cases h1 : 64 * j + b ≥ 64 * dp
      · have h2 : ¬ (64 * j + b - 64 * dp < 64 * n) := by omega
        simp [hb, h2]
      · simp [hb, h1]
  · split
    · rw [q_rd_bit]; simp [hb]
    · rw [q_rd_bit]; simp [hb]
/-- a value: int, ref to a cell, long, an int of the script, the same as a long, a static cell, some reference or null -/
abbrev q_V : Type := Nat ⊕ (Nat ⊕ (Nat ⊕ (Nat ⊕ (Nat ⊕ (Nat ⊕ Unit)))))
abbrev q_Lo : Type := List (Nat × q_V)
/-- a cell: what it is, how many words, the words -/
abbrev q_C : Type := Nat × Nat × Nat
abbrev q_H : Type := List (List q_C)
/-- launch; classes' numbers and slots; where the static cells lie; the script's codes; its length -/
abbrev q_E : Type := Launch × va_G × (Nat → Nat) × (Nat → Nat) × Nat
/-- a method: its name, bytes, locals, what it returns, its room -/
abbrev q_M : Type := MethodName × ByteArray × Nat × Option FieldType × Room
abbrev q_cl : List vw_C := [(RX0, TX0, 15), (RX2, TX2, 7), (RX2, TX2, 7), (RX3, TX3, 5), (RX4, TX4, 3), (RX5, TX5, 4), (RX6, TX6, 1), (RX7, TX7, 7), (RX8, TX8, 12), (RX9, TX9, 33)]
def q_ty (ci : Nat) : Nat → FieldType := match ci with
  | 0 => tyX0 | 1 => tyX2 | 2 => tyX2 | 3 => tyX3 | 4 => tyX4 | 5 => tyX5 | 6 => tyX6 | 7 => tyX7 | 8 => tyX8 | _ => tyX9
def q_isr (t : FieldType) : Bool := match t with
  | .int => false | .boolean => false | _ => true
def q_vr (E : q_E) (ad : List Nat) : q_V → Value → Prop
  | .inl n, v => v = .int (nI n)
  | .inr (.inl r), v => ∃ a, ad[r]? = some a ∧ v = .ref a
  | .inr (.inr (.inl n)), v => v = .long (lN n)
  | .inr (.inr (.inr (.inl k))), v => v = .int (nI (E.2.2.2.1 k))
  | .inr (.inr (.inr (.inr (.inl k)))), v => v = .long (nI (E.2.2.2.1 k)).toInt64
  | .inr (.inr (.inr (.inr (.inr (.inl k))))), v => v = .ref (E.2.2.1 k)
  | .inr (.inr (.inr (.inr (.inr (.inr _))))), v => v = .null ∨ ∃ a, v = .ref a
def q_cat : q_V → Nat
  | .inr (.inr (.inl _)) => 2
  | .inr (.inr (.inr (.inr (.inl _)))) => 2
  | _ => 1
theorem q_vr_cat {E : q_E} {ad : List Nat} {x : q_V} {v : Value} (h : q_vr E ad x v) : v.category = q_cat x := by
  match x, h with
  | .inl n, h => cases h; rfl
  | .inr (.inl r), ⟨a, h1, h2⟩ => cases h2; rfl
  | .inr (.inr (.inl n)), h => cases h; rfl
  | .inr (.inr (.inr (.inl k))), h => cases h; rfl
  | .inr (.inr (.inr (.inr (.inl k)))), h => cases h; rfl
  | .inr (.inr (.inr (.inr (.inr (.inl k))))), h => cases h; rfl
  | .inr (.inr (.inr (.inr (.inr (.inr _))))), h => rcases h with h | ⟨a, h⟩ <;> (cases h; rfl)
theorem q_vr_mono {E : q_E} {ad z : List Nat} {x : q_V} {v : Value} (h : q_vr E ad x v) : q_vr E (ad ++ z) x v := by
  match x, h with
  | .inl n, h => exact h
  | .inr (.inl r), ⟨a, h1, h2⟩ => exact ⟨a, by rw [List.getElem?_append_left (List.getElem?_eq_some_iff.mp h1).1]; exact h1, h2⟩
  | .inr (.inr (.inl n)), h => exact h
  | .inr (.inr (.inr (.inl k))), h => exact h
  | .inr (.inr (.inr (.inr (.inl k)))), h => exact h
  | .inr (.inr (.inr (.inr (.inr (.inl k))))), h => exact h
  | .inr (.inr (.inr (.inr (.inr (.inr _))))), h => exact h
def q_sr (E : q_E) (ad : List Nat) : List q_V → List Value → Prop
  | [], [] => True
  | x :: st, v :: stv => q_vr E ad x v ∧ q_sr E ad st stv
  | _, _ => False
def q_lr (E : q_E) (ad : List Nat) : q_Lo → List (Nat × Value) → Prop
  | [], [] => True
  | x :: lo, v :: lv => (x.1 = v.1 ∧ q_vr E ad x.2 v.2) ∧ q_lr E ad lo lv
  | _, _ => False
theorem q_sr_mono {E : q_E} {ad z : List Nat} : ∀ {st : List q_V} {stv : List Value}, q_sr E ad st stv → q_sr E (ad ++ z) st stv
  | [], [], _ => trivial
  | _ :: _, _ :: _, h => ⟨q_vr_mono h.1, q_sr_mono h.2⟩
theorem q_lr_mono {E : q_E} {ad z : List Nat} : ∀ {lo : q_Lo} {lv : List (Nat × Value)}, q_lr E ad lo lv → q_lr E (ad ++ z) lo lv
  | [], [], _ => trivial
  | _ :: _, _ :: _, h => ⟨⟨h.1.1, q_vr_mono h.1.2⟩, q_lr_mono h.2⟩
theorem q_lr_filter {E : q_E} {ad : List Nat} {f : Nat → Nat → Bool} : ∀ {lo : q_Lo} {lv : List (Nat × Value)}, q_lr E ad lo lv → q_lr E ad (lo.filter (fun q => f q.1 (q_cat q.2))) (lv.filter (fun q => f q.1 q.2.category))
  | [], [], _ => trivial
  | x :: lo, v :: lv, h => by
    have e1 : f v.1 v.2.category = f x.1 (q_cat x.2) := by rw [h.1.1, q_vr_cat h.1.2]
    rw [List.filter_cons, List.filter_cons, e1]
    cases f x.1 (q_cat x.2)
    · exact q_lr_filter h.2
    · exact ⟨h.1, q_lr_filter h.2⟩
theorem q_lr_get {E : q_E} {ad : List Nat} : ∀ {lo : q_Lo} {lv : List (Nat × Value)} {k i : Nat} {x : q_V}, q_lr E ad lo lv → lo[k]? = some (i, x) → ∃ v, lv[k]? = some (i, v) ∧ q_vr E ad x v
  | x :: lo, v :: lv, 0, i, y, h, e => by
    cases e
    exact ⟨v.2, by rw [List.getElem?_cons_zero, show v = (v.1, v.2) from rfl, ← h.1.1], h.1.2⟩
  | x :: lo, v :: lv, k + 1, i, y, h, e => by
    rw [List.getElem?_cons_succ] at e
    obtain ⟨w, h1, h2⟩ := q_lr_get h.2 e
    exact ⟨w, by rw [List.getElem?_cons_succ]; exact h1, h2⟩
/-- the first local of a number -/
def q_lg : q_Lo → Nat → Option q_V
  | [], _ => none
  | x :: lo, i => if x.1 = i then some x.2 else q_lg lo i
theorem q_lg_get {i : Nat} {x : q_V} : ∀ {lo : q_Lo}, q_lg lo i = some x → ∃ k : Nat, lo[k]? = some (i, x)
  | [], h => by cases h
  | y :: lo, h => by
    unfold q_lg at h
    by_cases c : y.1 = i
    · rw [if_pos c] at h
      cases h
      exact ⟨0, by rw [List.getElem?_cons_zero, ← c]⟩
    · rw [if_neg c] at h
      obtain ⟨k, hk⟩ := q_lg_get h
      exact ⟨k + 1, by rw [List.getElem?_cons_succ]; exact hk⟩
def q_ls1 (lo : q_Lo) (i : Nat) (x : q_V) : q_Lo := (i, x) :: lo.filter (fun q => !(q.1 == i) && !(q.1 + 1 == i && q_cat q.2 == 2))
def q_ls2 (lo : q_Lo) (i : Nat) (x : q_V) : q_Lo := (i, x) :: lo.filter (fun q => !(q.1 == i) && (!(q.1 == i + 1) && !(q.1 + 1 == i && q_cat q.2 == 2)))
/-- the cell of a number -/
def q_get (h : q_H) (r : Nat) : Option q_C := (h[r / 16]?).bind (fun row => row[r % 16]?)
def q_put (h : q_H) (r : Nat) (c : q_C) : q_H := h.modify (r / 16) (fun row => row.set (r % 16) c)
theorem q_get_put {h : q_H} {r r' : Nat} {c c0 : q_C} (h0 : q_get h r = some c0) : q_get (q_put h r c) r' = if r' = r then some c else q_get h r' := by
  unfold q_get q_put at *
  cases hr : h[r / 16]? with
  | none => rw [hr] at h0; cases h0
  | some row =>
    rw [hr] at h0
    have h0 : row[r % 16]? = some c0 := h0
    rw [List.getElem?_modify]
    by_cases e : r / 16 = r' / 16
    · have he : (fun a : List q_C => if r / 16 = r' / 16 then a.set (r % 16) c else a) = fun a => a.set (r % 16) c := by
        funext a; rw [if_pos e]
      rw [he, ← e, hr]
      show (row.set (r % 16) c)[r' % 16]? = _
      rw [List.getElem?_set]
      by_cases e2 : r % 16 = r' % 16
      · have : r' = r := by omega
        rw [if_pos e2, if_pos this, if_pos (List.getElem?_eq_some_iff.mp h0).1]
      · have : ¬ r' = r := by omega
        rw [if_neg e2, if_neg this]
        rfl
    · have : ¬ r' = r := by intro q; subst q; exact e rfl
      have he : (fun a : List q_C => if r / 16 = r' / 16 then a.set (r % 16) c else a) = fun a => a := by
        funext a; rw [if_neg e]
      rw [he, if_neg this]
      simp
/-- how many cells there are; a new one goes to the end -/
def q_cnt : q_H → Nat
  | [] => 0
  | [row] => row.length
  | _ :: h => 16 + q_cnt h
def q_push : q_H → q_C → q_H
  | [], c => [[c]]
  | [row], c => if row.length < 16 then [row ++ [c]] else [row, [c]]
  | row :: r2 :: h, c => row :: q_push (r2 :: h) c
def q_full : q_H → Prop
  | [] => True
  | [row] => row.length ≤ 16
  | row :: h => row.length = 16 ∧ q_full h
def q_opt (ad : List Nat) (x : Nat) (o : Option Nat) : Prop := (x = 0 ∧ o = none) ∨ ∃ r a, x = r + 1 ∧ ad[r]? = some a ∧ o = some a
def q_fr (isr : Bool) (ad : List Nat) (x : Nat) (v : Value) : Prop := match isr with
  | false => v = .int (nI x)
  | true => (x = 0 ∧ v = .null) ∨ ∃ r a, x = r + 1 ∧ ad[r]? = some a ∧ v = .ref a
theorem q_opt_mono {ad z : List Nat} {x : Nat} {o : Option Nat} (h : q_opt ad x o) : q_opt (ad ++ z) x o := by
  rcases h with h | ⟨r, a, h1, h2, h3⟩
  · exact Or.inl h
  · exact Or.inr ⟨r, a, h1, by rw [List.getElem?_append_left (List.getElem?_eq_some_iff.mp h2).1]; exact h2, h3⟩
theorem q_fr_mono {b : Bool} {ad z : List Nat} {x : Nat} {v : Value} (h : q_fr b ad x v) : q_fr b (ad ++ z) x v := by
  cases b
  · exact h
  · rcases h with h | ⟨r, a, h1, h2, h3⟩
    · exact Or.inl h
    · exact Or.inr ⟨r, a, h1, by rw [List.getElem?_append_left (List.getElem?_eq_some_iff.mp h2).1]; exact h2, h3⟩
/-- what an array's kind is: 0 int, 1 long, 2 char, 3 boolean, 4 Program; objects from 5 on -/
def q_cr (tys : List (ClassId × FieldType)) (ad : List Nat) (c : q_C) (e : va_E) : Prop :=
  (c.1 = 0 ∧ ∃ (cA : ClassId) (t0 : Nat), tys[t0]? = some (cA, FieldType.int) ∧ e = .inl (cA, c.2.1, .inl (fun i => nI (q_rd c.2.2 i)))) ∨
  (c.1 = 1 ∧ ∃ (cA : ClassId) (t0 : Nat), tys[t0]? = some (cA, FieldType.long) ∧ e = .inl (cA, c.2.1, .inr (.inl (fun i => lN (q_rd c.2.2 i))))) ∨
  (c.1 = 2 ∧ ∃ (cA : ClassId) (t0 : Nat), tys[t0]? = some (cA, FieldType.char) ∧ e = .inl (cA, c.2.1, .inl (fun i => nI (q_rd c.2.2 i)))) ∨
  (c.1 = 3 ∧ ∃ (cA : ClassId) (t0 : Nat), tys[t0]? = some (cA, FieldType.boolean) ∧ e = .inl (cA, c.2.1, .inl (fun i => nI (q_rd c.2.2 i)))) ∨
  (c.1 = 4 ∧ ∃ (cA : ClassId) (t0 : Nat) (f : Nat → Option Nat), tys[t0]? = some (cA, FieldType.object RX2) ∧ e = .inl (cA, c.2.1, .inr (.inr (.inr (.inr f)))) ∧ ∀ i, q_opt ad (q_rd c.2.2 i) (f i)) ∨
  (∃ (ci : Nat) (fs : List Value) (q : vw_C), c.1 = ci + 5 ∧ q_cl[ci]? = some q ∧ c.2.1 = q.2.2 ∧ e = .inr (ci, fs) ∧ fs.length = c.2.1 ∧ ∀ k, k < c.2.1 → ∃ v, fs[k]? = some v ∧ q_fr (q_isr (q_ty ci k)) ad (q_rd c.2.2 k) v)
theorem q_cr_mono {t1 t2 : List (ClassId × FieldType)} {ad z : List Nat} {c : q_C} {e : va_E} (h : q_cr t1 ad c e) : q_cr (t1 ++ t2) (ad ++ z) c e := by
  have hg : ∀ {t0 : Nat} {q : ClassId × FieldType}, t1[t0]? = some q → (t1 ++ t2)[t0]? = some q := fun h => by
    rw [List.getElem?_append_left (List.getElem?_eq_some_iff.mp h).1]; exact h
  rcases h with ⟨h1, cA, t0, h2, h3⟩ | ⟨h1, cA, t0, h2, h3⟩ | ⟨h1, cA, t0, h2, h3⟩ | ⟨h1, cA, t0, h2, h3⟩ | ⟨h1, cA, t0, f, h2, h3, h4⟩ | ⟨ci, fs, q, h1, h2, h3, h4, h5, h6⟩
  · exact Or.inl ⟨h1, cA, t0, hg h2, h3⟩
  · exact Or.inr (Or.inl ⟨h1, cA, t0, hg h2, h3⟩)
  · exact Or.inr (Or.inr (Or.inl ⟨h1, cA, t0, hg h2, h3⟩))
  · exact Or.inr (Or.inr (Or.inr (Or.inl ⟨h1, cA, t0, hg h2, h3⟩)))
  · exact Or.inr (Or.inr (Or.inr (Or.inr (Or.inl ⟨h1, cA, t0, f, hg h2, h3, fun i => q_opt_mono (h4 i)⟩))))
  · exact Or.inr (Or.inr (Or.inr (Or.inr (Or.inr ⟨ci, fs, q, h1, h2, h3, h4, h5, fun k hk => by
      obtain ⟨v, g1, g2⟩ := h6 k hk
      exact ⟨v, g1, q_fr_mono g2⟩⟩))))
def q_hr (tys : List (ClassId × FieldType)) (ad : List Nat) (h : q_H) (ws : va_W) : Prop := ws.map (fun q => q.1) = ad ∧ q_cnt h = ad.length ∧ q_full h ∧ ∀ r c, q_get h r = some c → ∃ a e, ad[r]? = some a ∧ ws[r]? = some (a, e) ∧ q_cr tys ad c e
