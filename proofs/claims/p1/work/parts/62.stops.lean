theorem q_P_mono {E : q_E} {M : q_M} {as : List q_V} {h : q_H} {Q Q' : Option q_V → q_H → Prop} (hQ : ∀ r h, Q r h → Q' r h) (k : q_P E M as h Q) : q_P E M as h Q' := by
  intro ad0 sz p e a1 a2 a3 s m args below f1 f2 hP hK
  obtain ⟨n, o, g1, g2, g3, ⟨⟨⟨r, h', v, ad', tys', ws', z1, z2, z3, z4⟩, z5⟩, g4⟩⟩ := k ad0 sz p e a1 a2 a3 s m args below f1 f2 hP hK
  exact ⟨n, o, g1, g2, g3, ⟨⟨⟨r, h', v, ad', tys', ws', z1, z2, hQ r h' z3, z4⟩, z5⟩, g4⟩⟩
theorem q_P_conv {E : q_E} {M : q_M} {r x x' : q_V} {h : q_H} {Q : Option q_V → q_H → Prop} (hx : ∀ ad w, q_vr E ad x w → q_vr E ad x' w) (k : q_P E M [r, x'] h Q) : q_P E M [r, x] h Q := by
  intro ad0 sz p e a1 a2 a3 s m args below f1 f2 hP hK
  refine k ad0 sz p e a1 a2 a3 s m args below f1 f2 ?_ hK
  obtain ⟨vs, tys, ws, z1, z2, z3⟩ := hP
  refine ⟨vs, tys, ws, z1, ?_, z3⟩
  match vs, z2 with
  | [v, w], z2 => exact ⟨z2.1, hx _ _ z2.2.1, trivial⟩
def q_OKQ (E : q_E) (tg : Nat → Nat) (mt : Nat → q_M) (M : q_M) (Q : Option q_V → q_H → Prop) (pc pc' : Nat) (op : q_Op) : Prop := ∀ (B : q_B) (lo : q_Lo) (st : List q_V) (ce sl : Nat) (h : q_H) (ks : q_K) (kj : Nat → q_K) (kr : q_KR) (kc : Nat → q_B → List q_V → q_H → q_KR → Bool), q_inB E B →
  (∀ B lo st ce sl h, q_inB E B → ks B lo st ce sl h = true → q_W E M Q pc' lo st ce sl h) →
  (∀ b B lo st ce sl h, q_inB E B → kj b B lo st ce sl h = true → q_W E M Q (tg b) lo st ce sl h) →
  (∀ B r h, q_inB E B → kr B r h = true → Q r h) →
  (∀ j B as h kc', q_inB E B → kc j B as h kc' = true → q_P E (mt j) as h (fun r h' => ∃ B', q_inB E B' ∧ kc' B' r h' = true)) →
  op B lo st ce sl h ks kj kr kc = true → q_W E M Q pc lo st ce sl h
def q_okCQ (E : q_E) (tg : Nat → Nat) (mt : Nat → q_M) (M : q_M) (Q : Option q_V → q_H → Prop) : Nat → List q_Op → Prop
  | _, [] => True
  | pc, op :: cs => ∃ pc', q_OKQ E tg mt M Q pc pc' op ∧ q_okCQ E tg mt M Q pc' cs
theorem q_okCQ_of {E : q_E} {tg : Nat → Nat} {mt : Nat → q_M} {M : q_M} (Q : Option q_V → q_H → Prop) : ∀ {cs : List q_Op} {pc : Nat}, q_okC E tg mt M pc cs → q_okCQ E tg mt M Q pc cs
  | [], _, _ => trivial
  | _ :: _, _, ⟨pc', h1, h2⟩ => ⟨pc', h1 Q, q_okCQ_of Q h2⟩
/-- the run, with summaries of calls -/
abbrev q_S : Type := Nat → q_B → List q_V → q_H → q_KR → Bool
noncomputable def q_gs (P : List (Nat × List (List q_Op))) (S : q_S) : Nat → List (List q_Op) → List q_Op → q_B → q_Lo → List q_V → Nat → Nat → q_H → q_KR → Bool := fun n => Nat.rec (motive := fun _ => List (List q_Op) → List q_Op → q_B → q_Lo → List q_V → Nat → Nat → q_H → q_KR → Bool) (fun _ _ _ _ _ _ _ _ _ => false)
  (fun _ ih bl cs B lo st ce sl h kr => e_pop cs (fun op cs => op B lo st ce sl h (fun B lo st ce sl h => ih bl cs B lo st ce sl h kr) (fun b B lo st ce sl h => e_nth bl b (fun cs => ih bl cs B lo st ce sl h kr)) kr (fun j B as h kc => cond (S j B as h kc) true (e_nth P j (fun p => cond (Nat.ble (q_wd as) p.1) (e_pop p.2 (fun cs _ => ih p.2 cs B (q_args 0 as) [] 0 0 h kc)) false))))) n
theorem q_gs_ok {E : q_E} {mt : Nat → q_M} {P : List (Nat × List (List q_Op))} {S : q_S} (hP : ∀ (j : Nat) (p : Nat × List (List q_Op)), P[j]? = some p → q_okM E mt (mt j) p) (hS : ∀ j B as h kc, q_inB E B → S j B as h kc = true → q_P E (mt j) as h (fun r h' => ∃ B', q_inB E B' ∧ kc B' r h' = true)) :
    ∀ (n : Nat) (M : q_M) (tg : Nat → Nat) (bl : List (List q_Op)) (pc : Nat) (cs : List q_Op) (B : q_B) (lo : q_Lo) (st : List q_V) (ce sl : Nat) (h : q_H) (kr : q_KR) (Q : Option q_V → q_H → Prop), (∀ (b : Nat) (cs : List q_Op), bl[b]? = some cs → q_okCQ E tg mt M Q (tg b) cs) → q_okCQ E tg mt M Q pc cs → q_inB E B → (∀ B r h, q_inB E B → kr B r h = true → Q r h) → q_gs P S n bl cs B lo st ce sl h kr = true → q_W E M Q pc lo st ce sl h := by
  intro n
  induction n with
  | zero => intro M tg bl pc cs B lo st ce sl h kr Q hbl hcs hB hkr e; cases e
  | succ n ih =>
    intro M tg bl pc cs B lo st ce sl h kr Q hbl hcs hB hkr e
    replace e := e_pop_ok e
    obtain ⟨op, cs', rfl, e⟩ := e
    obtain ⟨pc', hop, hcs'⟩ := hcs
    refine hop B lo st ce sl h _ _ _ _ hB ?_ ?_ hkr ?_ e
    · intro B lo st ce sl h hB e
      exact ih M tg bl pc' cs' B lo st ce sl h kr Q hbl hcs' hB hkr e
    · intro b B lo st ce sl h hB e
      replace e := e_nth_ok e
      obtain ⟨cs2, e1, e⟩ := e
      exact ih M tg bl (tg b) cs2 B lo st ce sl h kr Q hbl (hbl b cs2 e1) hB hkr e
    · intro j B as h kc' hB e
      cases hs : S j B as h kc' with
      | true => exact hS j B as h kc' hB hs
      | false =>
        rw [hs] at e
        replace e := e_nth_ok e
        obtain ⟨⟨ml, bl2⟩, e1, e⟩ := e
        replace e := e_cnd e
        obtain ⟨e0, e⟩ := e
        replace e := e_pop_ok e
        obtain ⟨cs2, bl3, e2, e⟩ := e
        obtain ⟨tg2, t0, tm, t1, t2⟩ := hP j _ e1
        have e2 : bl2 = cs2 :: bl3 := e2
        have tm : ml = (mt j).2.2.1 := tm
        have hW : q_W E (mt j) (fun r h' => ∃ B', q_inB E B' ∧ kc' B' r h' = true) 0 (q_args 0 as) [] 0 0 h := by
          have hz := t1 0 cs2 (by rw [e2]; rfl)
          rw [t0] at hz
          exact ih (mt j) tg2 bl2 0 cs2 B (q_args 0 as) [] 0 0 h kc' _ (fun b cs hb => q_okCQ_of _ (t1 b cs hb)) (q_okCQ_of _ hz) hB (fun B r h z1 z2 => ⟨B, z1, z2⟩) e
        exact q_Pof t2 (by rw [← tm]; exact e_le e0) hW
/-- no summary -/
noncomputable def s_no : q_S := fun _ _ _ _ _ => false
theorem s_no_ok {E : q_E} {mt : Nat → q_M} : ∀ j B as h kc, q_inB E B → s_no j B as h kc = true → q_P E (mt j) as h (fun r h' => ∃ B', q_inB E B' ∧ kc B' r h' = true) := fun _ _ _ _ _ _ z => by cases z
/-- one summary: this method, on the reference, with this number, from this heap to that one -/
noncomputable def s_one (j0 p0 : Nat) (hi ho : q_H) : q_S := fun j B as h kc => cond (Nat.beq j j0) (e_pop as (fun v0 t => e_isR v0 (fun r => cond (Nat.beq r 138) (e_pop t (fun v1 t2 => e_nil t2 (e_int B v1 (fun B q => cond (and (Nat.beq q p0) (e_hEq h hi)) (kc B none ho) false)))) false))) false
theorem s_one_ok {E : q_E} {mt : Nat → q_M} {j0 p0 : Nat} {hi ho : q_H} (hc : q_P E (mt j0) [.inr (.inl 138), .inl p0] hi (fun r h => r = none ∧ h = ho)) : ∀ j B as h kc, q_inB E B → s_one j0 p0 hi ho j B as h kc = true → q_P E (mt j) as h (fun r h' => ∃ B', q_inB E B' ∧ kc B' r h' = true) := by
  intro j B as h kc hB e
  replace e := e_cnd e
  obtain ⟨e0, e⟩ := e
  rw [e_eq e0]
  replace e := e_pop_ok e
  obtain ⟨v0, t, rfl, e⟩ := e
  replace e := e_isR_ok e
  obtain ⟨r, rfl, e⟩ := e
  replace e := e_cnd e
  obtain ⟨e1, e⟩ := e
  rw [e_eq e1]
  replace e := e_pop_ok e
  obtain ⟨v1, t2, rfl, e⟩ := e
  replace e := e_nil_ok e
  obtain ⟨rfl, e⟩ := e
  obtain ⟨q, B', hB', e, hv⟩ := e_int_ok hB e
  replace e := e_cnd e
  obtain ⟨e2, e⟩ := e
  obtain ⟨x1, x2⟩ := e_and e2
  refine q_P_conv hv ?_
  rw [e_eq x1, e_hEq_ok x2]
  exact q_P_mono (fun r h z => by obtain ⟨z1, z2⟩ := z; subst z1; subst z2; exact ⟨B', hB', e⟩) hc
noncomputable def s_or (S T : q_S) : q_S := fun j B as h kc => cond (S j B as h kc) true (T j B as h kc)
theorem s_or_ok {E : q_E} {mt : Nat → q_M} {S T : q_S} (hS : ∀ j B as h kc, q_inB E B → S j B as h kc = true → q_P E (mt j) as h (fun r h' => ∃ B', q_inB E B' ∧ kc B' r h' = true)) (hT : ∀ j B as h kc, q_inB E B → T j B as h kc = true → q_P E (mt j) as h (fun r h' => ∃ B', q_inB E B' ∧ kc B' r h' = true)) : ∀ j B as h kc, q_inB E B → s_or S T j B as h kc = true → q_P E (mt j) as h (fun r h' => ∃ B', q_inB E B' ∧ kc B' r h' = true) := by
  intro j B as h kc hB e
  cases hs : S j B as h kc with
  | true => exact hS j B as h kc hB hs
  | false =>
    unfold s_or at e
    rw [hs, cond_false] at e
    exact hT j B as h kc hB e
/-- a stop: at this number of the loop, with this second local -/
noncomputable def o_stop (c1 n1 p1 : Nat) (h1 : q_H) : q_Op := fun B lo st ce sl h ks _ _ _ => e_lg lo 3 (fun v3 => e_is v3 (fun c => e_lg lo 2 (fun v2 => e_is v2 (fun n => cond (and (Nat.beq c c1) (Nat.beq n n1)) (e_nil2 st ce sl (e_lg lo 1 (fun v1 => e_is v1 (fun p => e_lg lo 0 (fun v0 => e_isR v0 (fun r => and (and (Nat.beq p p1) (Nat.beq r 138)) (e_hEq h h1)))) (fun _ => false)))) (ks B lo st ce sl h)) (fun _ => false))) (fun _ => false))
theorem o_stop_ok {E : q_E} {tg : Nat → Nat} {mt : Nat → q_M} {M : q_M} {Q : Option q_V → q_H → Prop} {pc c1 n1 p1 : Nat} {h1 : q_H} (k : q_W E M Q pc [(3, .inl c1), (2, .inl n1), (1, .inl p1), (0, .inr (.inl 138))] [] 0 0 h1) : q_OKQ E tg mt M Q pc pc (o_stop c1 n1 p1 h1) := by
  intro B lo st ce sl h ks kj kr kc hB hs hj hr hc e
  replace e := e_lg_ok e
  obtain ⟨v3, l3, e⟩ := e
  replace e := e_is_ok e
  rcases e with ⟨c, rfl, e⟩ | ⟨s, -, e⟩
  rotate_left
  · cases e
  replace e := e_lg_ok e
  obtain ⟨v2, l2, e⟩ := e
  replace e := e_is_ok e
  rcases e with ⟨n, rfl, e⟩ | ⟨s, -, e⟩
  rotate_left
  · cases e
  cases hb : (Nat.beq c c1 && Nat.beq n n1) with
  | false =>
    rw [hb, cond_false] at e
    exact hs _ _ _ _ _ _ hB e
  | true =>
    rw [hb, cond_true] at e
    obtain ⟨x1, x2⟩ := e_and hb
    replace e := e_nil2_ok e
    obtain ⟨rfl, rfl, rfl, e⟩ := e
    replace e := e_lg_ok e
    obtain ⟨v1, l1, e⟩ := e
    replace e := e_is_ok e
    rcases e with ⟨p, rfl, e⟩ | ⟨s, -, e⟩
    rotate_left
    · cases e
    replace e := e_lg_ok e
    obtain ⟨v0, l0, e⟩ := e
    replace e := e_isR_ok e
    obtain ⟨r, rfl, e⟩ := e
    obtain ⟨x3, x4⟩ := e_and e
    obtain ⟨x5, x6⟩ := e_and x3
    have z1 := e_eq x1
    have z2 := e_eq x2
    have z5 := e_eq x5
    have z6 := e_eq x6
    have z4 := e_hEq_ok x4
    subst z1; subst z2; subst z5; subst z6; subst z4
    exact z_lsub (z_lo4 l3 l2 l1 l0) k
/-- one operation ahead of a block of a method -/
theorem z_okCQ_cons {E : q_E} {tg : Nat → Nat} {mt : Nat → q_M} {M : q_M} {Q : Option q_V → q_H → Prop} {pc : Nat} {op : q_Op} {cs : List q_Op} (h1 : q_OKQ E tg mt M Q pc pc op) (h2 : q_okCQ E tg mt M Q pc cs) : q_okCQ E tg mt M Q pc (op :: cs) := ⟨pc, h1, h2⟩
theorem z_setQ {E : q_E} {tg : Nat → Nat} {mt : Nat → q_M} {M : q_M} {Q : Option q_V → q_H → Prop} {bl : List (List q_Op)} {b0 : Nat} {cs0 : List q_Op} (h : ∀ (b : Nat) (cs : List q_Op), bl[b]? = some cs → q_okC E tg mt M (tg b) cs) (h0 : q_okCQ E tg mt M Q (tg b0) cs0) : ∀ (b : Nat) (cs : List q_Op), (bl.set b0 cs0)[b]? = some cs → q_okCQ E tg mt M Q (tg b) cs := by
  intro b cs hb
  rw [List.getElem?_set] at hb
  by_cases e : b0 = b
  · subst e
    rw [if_pos rfl] at hb
    split at hb
    · cases hb; exact h0
    · cases hb
  · rw [if_neg e] at hb
    exact q_okCQ_of Q (h b cs hb)
