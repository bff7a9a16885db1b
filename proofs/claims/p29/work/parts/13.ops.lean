def q_OK (E : q_E) (tg : Nat → Nat) (mt : Nat → q_M) (M : q_M) (pc pc' : Nat) (op : q_Op) : Prop := ∀ (Q : Option q_V → q_H → Prop) (B : q_B) (lo : q_Lo) (st : List q_V) (ce sl : Nat) (h : q_H) (ks : q_K) (kj : Nat → q_K) (kr : q_KR) (kc : Nat → q_B → List q_V → q_H → q_KR → Bool), q_inB E B →
  (∀ B lo st ce sl h, q_inB E B → ks B lo st ce sl h = true → q_W E M Q pc' lo st ce sl h) →
  (∀ b B lo st ce sl h, q_inB E B → kj b B lo st ce sl h = true → q_W E M Q (tg b) lo st ce sl h) →
  (∀ B r h, q_inB E B → kr B r h = true → Q r h) →
  (∀ j B as h kc', q_inB E B → kc j B as h kc' = true → q_P E (mt j) as h (fun r h' => ∃ B', q_inB E B' ∧ kc' B' r h' = true)) →
  op B lo st ce sl h ks kj kr kc = true → q_W E M Q pc lo st ce sl h
theorem e_cnd {b : Bool} {x : Bool} (h : cond b x false = true) : b = true ∧ x = true := by
  cases b
  · cases h
  · exact ⟨rfl, h⟩
theorem e_and {b c : Bool} (h : and b c = true) : b = true ∧ c = true := by
  cases b
  · cases h
  · exact ⟨rfl, h⟩
theorem e_le {a b : Nat} (h : Nat.ble a b = true) : a ≤ b := Nat.le_of_ble_eq_true h
theorem e_nle {a b : Nat} (h : Nat.ble a b = false) : ¬ a ≤ b := fun z => by rw [Nat.ble_eq_true_of_le z] at h; cases h
theorem e_eq {a b : Nat} (h : Nat.beq a b = true) : a = b := Nat.eq_of_beq_eq_true h
theorem e_neq {a b : Nat} (h : Nat.beq a b = false) : ¬ a = b := Nat.ne_of_beq_eq_false h
noncomputable def e_pi (B : q_B) (st : List q_V) (k : q_B → Nat → List q_V → Bool) : Bool := e_pop st (fun v st => e_int B v (fun B n => k B n st))
theorem e_pi_ok {E : q_E} {B : q_B} {st : List q_V} {k : q_B → Nat → List q_V → Bool} (hB : q_inB E B) (h : e_pi B st k = true) : ∃ v st' n B', st = v :: st' ∧ q_inB E B' ∧ k B' n st' = true ∧ ∀ ad w, q_vr E ad v w → q_vr E ad (.inl n) w := by
  replace h := e_pop_ok h
  obtain ⟨v, st', e1, h⟩ := h
  replace h := e_int_ok hB h
  obtain ⟨n, B', h1, h2, h3⟩ := h
  exact ⟨v, st', n, B', e1, h1, h2, h3⟩
/-- a ref or a static cell -/
noncomputable def e_ra (v : q_V) (kr kq : Nat → Bool) : Bool := Sum.rec (motive := fun _ => Bool) (fun _ => false) (fun v => Sum.rec (motive := fun _ => Bool) kr (fun v => Sum.rec (motive := fun _ => Bool) (fun _ => false) (fun v => Sum.rec (motive := fun _ => Bool) (fun _ => false) (fun v => Sum.rec (motive := fun _ => Bool) (fun _ => false) (fun v => Sum.rec (motive := fun _ => Bool) kq (fun _ => false) v) v) v) v) v) v
theorem e_ra_ok {v : q_V} {kr kq : Nat → Bool} (h : e_ra v kr kq = true) : (∃ r, v = .inr (.inl r) ∧ kr r = true) ∨ ∃ s, v = .inr (.inr (.inr (.inr (.inr (.inl s))))) ∧ kq s = true := by
  match v, h with
  | .inr (.inl r), h => exact Or.inl ⟨r, rfl, h⟩
  | .inr (.inr (.inr (.inr (.inr (.inl s))))), h => exact Or.inr ⟨s, rfl, h⟩
/-- a long or a script's int as a long -/
noncomputable def e_ll (v : q_V) (kl kt : Nat → Bool) : Bool := Sum.rec (motive := fun _ => Bool) (fun _ => false) (fun v => Sum.rec (motive := fun _ => Bool) (fun _ => false) (fun v => Sum.rec (motive := fun _ => Bool) kl (fun v => Sum.rec (motive := fun _ => Bool) (fun _ => false) (fun v => Sum.rec (motive := fun _ => Bool) kt (fun _ => false) v) v) v) v) v
theorem e_ll_ok {v : q_V} {kl kt : Nat → Bool} (h : e_ll v kl kt = true) : (∃ n, v = .inr (.inr (.inl n)) ∧ kl n = true) ∨ ∃ s, v = .inr (.inr (.inr (.inr (.inl s)))) ∧ kt s = true := by
  match v, h with
  | .inr (.inr (.inl r)), h => exact Or.inl ⟨r, rfl, h⟩
  | .inr (.inr (.inr (.inr (.inl s)))), h => exact Or.inr ⟨s, rfl, h⟩
noncomputable def e_clt (B : q_B) (x : q_V) (c : Nat) (kt kf : q_B → Bool) : Bool := e_is x (fun n => cond (Nat.ble (Nat.succ (q_bi n)) c) (kt B) (kf B)) (fun s => e_lt B s c kt kf)
theorem e_clt_ok {E : q_E} {B : q_B} {x : q_V} {c : Nat} {kt kf : q_B → Bool} (hB : q_inB E B) (h : e_clt B x c kt kf = true) : ∃ a, q_cd E x = some a ∧ ((q_bi a < c ∧ ∃ B', q_inB E B' ∧ kt B' = true) ∨ (¬ q_bi a < c ∧ ∃ B', q_inB E B' ∧ kf B' = true)) := by
  replace h := e_is_ok h
  rcases h with ⟨n, rfl, h⟩ | ⟨s, rfl, h⟩
  · refine ⟨n, rfl, ?_⟩
    cases hb : Nat.ble (Nat.succ (q_bi n)) c with
    | true => rw [hb] at h; exact Or.inl ⟨e_le hb, B, hB, h⟩
    | false => rw [hb] at h; exact Or.inr ⟨e_nle hb, B, hB, h⟩
  · exact ⟨_, rfl, e_lt_ok hB h⟩
noncomputable def e_ceq (B : q_B) (x : q_V) (c : Nat) (kt kf : q_B → Bool) : Bool := e_is x (fun n => cond (Nat.beq (q_bi n) c) (kt B) (kf B)) (fun s => e_lt B s c kf (fun B => e_lt B s (Nat.succ c) kt kf))
theorem e_ceq_ok {E : q_E} {B : q_B} {x : q_V} {c : Nat} {kt kf : q_B → Bool} (hB : q_inB E B) (h : e_ceq B x c kt kf = true) : ∃ a, q_cd E x = some a ∧ ((q_bi a = c ∧ ∃ B', q_inB E B' ∧ kt B' = true) ∨ (¬ q_bi a = c ∧ ∃ B', q_inB E B' ∧ kf B' = true)) := by
  replace h := e_is_ok h
  rcases h with ⟨n, rfl, h⟩ | ⟨s, rfl, h⟩
  · refine ⟨n, rfl, ?_⟩
    cases hb : Nat.beq (q_bi n) c with
    | true => rw [hb] at h; exact Or.inl ⟨e_eq hb, B, hB, h⟩
    | false => rw [hb] at h; exact Or.inr ⟨e_neq hb, B, hB, h⟩
  · refine ⟨_, rfl, ?_⟩
    replace h := e_lt_ok hB h
    rcases h with ⟨h1, h2⟩ | ⟨h1, B', h2, h3⟩
    · exact Or.inr ⟨by omega, h2⟩
    · rcases e_lt_ok h2 h3 with ⟨g1, g2⟩ | ⟨g1, g2⟩
      · exact Or.inl ⟨by omega, g2⟩
      · exact Or.inr ⟨by omega, g2⟩
section
variable {E : q_E} {tg : Nat → Nat} {mt : Nat → q_M} {M : q_M} {pc pc' : Nat}
noncomputable def o_push (v : q_V) : q_Op := fun B lo st ce sl h ks _ _ _ => ks B lo (v :: st) ce sl h
theorem o_push_ok {v : q_V} (row : ∀ {Q : Option q_V → q_H → Prop} {lo st ce sl h}, q_W E M Q pc' lo (v :: st) ce sl h → q_W E M Q pc lo st ce sl h) : q_OK E tg mt M pc pc' (o_push v) :=
  fun _ _ _ _ _ _ _ _ _ _ _ hB hs _ _ _ e => row (hs _ _ _ _ _ _ hB e)
noncomputable def o_iload (i : Nat) : q_Op := fun B lo st ce sl h ks _ _ _ => e_lg lo i (fun v => e_is v (fun n => ks B lo (.inl n :: st) ce sl h) (fun s => ks B lo (.inr (.inr (.inr (.inl s))) :: st) ce sl h))
theorem o_iload_ok {i : Nat} (row1 : ∀ {Q : Option q_V → q_H → Prop} {lo st ce sl h a}, q_lg lo i = some (.inl a) → q_W E M Q pc' lo (.inl a :: st) ce sl h → q_W E M Q pc lo st ce sl h) (row2 : ∀ {Q : Option q_V → q_H → Prop} {lo st ce sl h a}, q_lg lo i = some (.inr (.inr (.inr (.inl a)))) → q_W E M Q pc' lo (.inr (.inr (.inr (.inl a))) :: st) ce sl h → q_W E M Q pc lo st ce sl h) : q_OK E tg mt M pc pc' (o_iload i) := by
  intro Q B lo st ce sl h ks kj kr kc hB hs hj hr hc e
  replace e := e_lg_ok e
  obtain ⟨v, h1, e⟩ := e
  replace e := e_is_ok e
  rcases e with ⟨n, rfl, e⟩ | ⟨s, rfl, e⟩
  · exact row1 h1 (hs _ _ _ _ _ _ hB e)
  · exact row2 h1 (hs _ _ _ _ _ _ hB e)
noncomputable def o_aload (i : Nat) : q_Op := fun B lo st ce sl h ks _ _ _ => e_lg lo i (fun v => e_ra v (fun n => ks B lo (.inr (.inl n) :: st) ce sl h) (fun s => ks B lo (.inr (.inr (.inr (.inr (.inr (.inl s))))) :: st) ce sl h))
theorem o_aload_ok {i : Nat} (row1 : ∀ {Q : Option q_V → q_H → Prop} {lo st ce sl h a}, q_lg lo i = some (.inr (.inl a)) → q_W E M Q pc' lo (.inr (.inl a) :: st) ce sl h → q_W E M Q pc lo st ce sl h) (row2 : ∀ {Q : Option q_V → q_H → Prop} {lo st ce sl h a}, q_lg lo i = some (.inr (.inr (.inr (.inr (.inr (.inl a)))))) → q_W E M Q pc' lo (.inr (.inr (.inr (.inr (.inr (.inl a))))) :: st) ce sl h → q_W E M Q pc lo st ce sl h) : q_OK E tg mt M pc pc' (o_aload i) := by
  intro Q B lo st ce sl h ks kj kr kc hB hs hj hr hc e
  replace e := e_lg_ok e
  obtain ⟨v, h1, e⟩ := e
  replace e := e_ra_ok e
  rcases e with ⟨n, rfl, e⟩ | ⟨s, rfl, e⟩
  · exact row1 h1 (hs _ _ _ _ _ _ hB e)
  · exact row2 h1 (hs _ _ _ _ _ _ hB e)
noncomputable def o_lload (i : Nat) : q_Op := fun B lo st ce sl h ks _ _ _ => e_lg lo i (fun v => e_ll v (fun n => ks B lo (.inr (.inr (.inl n)) :: st) ce sl h) (fun s => ks B lo (.inr (.inr (.inr (.inr (.inl s)))) :: st) ce sl h))
theorem o_lload_ok {i : Nat} (row1 : ∀ {Q : Option q_V → q_H → Prop} {lo st ce sl h a}, q_lg lo i = some (.inr (.inr (.inl a))) → q_W E M Q pc' lo (.inr (.inr (.inl a)) :: st) ce sl h → q_W E M Q pc lo st ce sl h) (row2 : ∀ {Q : Option q_V → q_H → Prop} {lo st ce sl h a}, q_lg lo i = some (.inr (.inr (.inr (.inr (.inl a))))) → q_W E M Q pc' lo (.inr (.inr (.inr (.inr (.inl a)))) :: st) ce sl h → q_W E M Q pc lo st ce sl h) : q_OK E tg mt M pc pc' (o_lload i) := by
  intro Q B lo st ce sl h ks kj kr kc hB hs hj hr hc e
  replace e := e_lg_ok e
  obtain ⟨v, h1, e⟩ := e
  replace e := e_ll_ok e
  rcases e with ⟨n, rfl, e⟩ | ⟨s, rfl, e⟩
  · exact row1 h1 (hs _ _ _ _ _ _ hB e)
  · exact row2 h1 (hs _ _ _ _ _ _ hB e)
noncomputable def o_istore (i : Nat) : q_Op := fun B lo st ce sl h ks _ _ _ => e_pop st (fun v st => e_is v (fun n => e_ls1 lo i (.inl n) (fun lo => ks B lo st ce sl h)) (fun s => e_ls1 lo i (.inr (.inr (.inr (.inl s)))) (fun lo => ks B lo st ce sl h)))
theorem o_istore_ok {i : Nat} (row1 : ∀ {Q : Option q_V → q_H → Prop} {lo st ce sl h a}, q_W E M Q pc' (q_ls1 lo i (.inl a)) st ce sl h → q_W E M Q pc lo (.inl a :: st) ce sl h) (row2 : ∀ {Q : Option q_V → q_H → Prop} {lo st ce sl h a}, q_W E M Q pc' (q_ls1 lo i (.inr (.inr (.inr (.inl a))))) st ce sl h → q_W E M Q pc lo (.inr (.inr (.inr (.inl a))) :: st) ce sl h) : q_OK E tg mt M pc pc' (o_istore i) := by
  intro Q B lo st ce sl h ks kj kr kc hB hs hj hr hc e
  replace e := e_pop_ok e
  obtain ⟨v, st', rfl, e⟩ := e
  replace e := e_is_ok e
  rcases e with ⟨n, rfl, e⟩ | ⟨s, rfl, e⟩
  · exact row1 (hs _ _ _ _ _ _ hB (e_ls1_ok (k := fun lo => ks B lo st' ce sl h) e))
  · exact row2 (hs _ _ _ _ _ _ hB (e_ls1_ok (k := fun lo => ks B lo st' ce sl h) e))
noncomputable def o_astore (i : Nat) : q_Op := fun B lo st ce sl h ks _ _ _ => e_pop st (fun v st => e_isR v (fun n => e_ls1 lo i (.inr (.inl n)) (fun lo => ks B lo st ce sl h)))
theorem o_astore_ok {i : Nat} (row1 : ∀ {Q : Option q_V → q_H → Prop} {lo st ce sl h a}, q_W E M Q pc' (q_ls1 lo i (.inr (.inl a))) st ce sl h → q_W E M Q pc lo (.inr (.inl a) :: st) ce sl h) : q_OK E tg mt M pc pc' (o_astore i) := by
  intro Q B lo st ce sl h ks kj kr kc hB hs hj hr hc e
  replace e := e_pop_ok e
  obtain ⟨v, st', rfl, e⟩ := e
  replace e := e_isR_ok e
  obtain ⟨n, rfl, e⟩ := e
  exact row1 (hs _ _ _ _ _ _ hB (e_ls1_ok (k := fun lo => ks B lo st' ce sl h) e))
noncomputable def o_lstore (i : Nat) : q_Op := fun B lo st ce sl h ks _ _ _ => e_pop st (fun v st => e_isL v (fun n => e_ls2 lo i (.inr (.inr (.inl n))) (fun lo => ks B lo st ce sl h)))
theorem o_lstore_ok {i : Nat} (row1 : ∀ {Q : Option q_V → q_H → Prop} {lo st ce sl h a}, q_W E M Q pc' (q_ls2 lo i (.inr (.inr (.inl a)))) st ce sl h → q_W E M Q pc lo (.inr (.inr (.inl a)) :: st) ce sl h) : q_OK E tg mt M pc pc' (o_lstore i) := by
  intro Q B lo st ce sl h ks kj kr kc hB hs hj hr hc e
  replace e := e_pop_ok e
  obtain ⟨v, st', rfl, e⟩ := e
  replace e := e_isL_ok e
  obtain ⟨n, rfl, e⟩ := e
  exact row1 (hs _ _ _ _ _ _ hB (e_ls2_ok (k := fun lo => ks B lo st' ce sl h) e))
noncomputable def o_iinc (i b : Nat) : q_Op := fun B lo st ce sl h ks _ _ _ => e_lg lo i (fun v => e_is v (fun n => e_frc ((n + b) % 4294967296) (fun m => e_ls1 lo i (.inl m) (fun lo => ks B lo st ce sl h))) (fun _ => false))
theorem o_iinc_ok {i b : Nat} {n : Int} (hd : decode M.2.1 pc = .ok (.iinc i n, 3)) (hv : Int32.ofInt n = nI b) (hn : i < M.2.2.1) : q_OK E tg mt M pc (pc + 3) (o_iinc i b) := by
  intro Q B lo st ce sl h ks kj kr kc hB hs hj hr hc e
  replace e := e_lg_ok e
  obtain ⟨v, h1, e⟩ := e
  replace e := e_is_ok e
  rcases e with ⟨n, rfl, e⟩ | ⟨s, rfl, e⟩
  · rw [e_frc_eq] at e
    exact q_iinc hd h1 hv hn (hs _ _ _ _ _ _ hB (e_ls1_ok (k := fun lo => ks B lo st ce sl h) e))
  · cases e
/-- two ints to one -/
noncomputable def o_bin (f : Nat → Nat → Nat) : q_Op := fun B lo st ce sl h ks _ _ _ => e_pi B st (fun B b st => e_pi B st (fun B a st => e_frc (f a b) (fun m => ks B lo (.inl m :: st) ce sl h)))
theorem o_bin_ok {f : Nat → Nat → Nat} (row : ∀ {Q : Option q_V → q_H → Prop} {lo st ce sl h a b}, q_W E M Q pc' lo (.inl (f a b) :: st) ce sl h → q_W E M Q pc lo (.inl b :: .inl a :: st) ce sl h) : q_OK E tg mt M pc pc' (o_bin f) := by
  intro Q B lo st ce sl h ks kj kr kc hB hs hj hr hc e
  replace e := e_pi_ok hB e
  obtain ⟨v, st1, b, B1, rfl, hB1, e, hv⟩ := e
  replace e := e_pi_ok hB1 e
  obtain ⟨w, st2, a, B2, rfl, hB2, e, hw⟩ := e
  rw [e_frc_eq] at e
  exact q_conv2 hv hw (row (hs _ _ _ _ _ _ hB2 e))
noncomputable def o_binc (g : Nat → Nat → Bool) (f : Nat → Nat → Nat) : q_Op := fun B lo st ce sl h ks _ _ _ => e_pi B st (fun B b st => e_pi B st (fun B a st => cond (g a b) (e_frc (f a b) (fun m => ks B lo (.inl m :: st) ce sl h)) false))
theorem o_binc_ok {g : Nat → Nat → Bool} {f : Nat → Nat → Nat} (row : ∀ {Q : Option q_V → q_H → Prop} {lo st ce sl h a b}, g a b = true → q_W E M Q pc' lo (.inl (f a b) :: st) ce sl h → q_W E M Q pc lo (.inl b :: .inl a :: st) ce sl h) : q_OK E tg mt M pc pc' (o_binc g f) := by
  intro Q B lo st ce sl h ks kj kr kc hB hs hj hr hc e
  replace e := e_pi_ok hB e
  obtain ⟨v, st1, b, B1, rfl, hB1, e, hv⟩ := e
  replace e := e_pi_ok hB1 e
  obtain ⟨w, st2, a, B2, rfl, hB2, e, hw⟩ := e
  obtain ⟨e0, e⟩ := e_cnd e
  rw [e_frc_eq] at e
  exact q_conv2 hv hw (row e0 (hs _ _ _ _ _ _ hB2 e))
noncomputable def o_lbin (f : Nat → Nat → Nat) : q_Op := fun B lo st ce sl h ks _ _ _ => e_pop st (fun v st => e_isL v (fun b => e_pop st (fun w st => e_isL w (fun a => e_frc (f a b) (fun m => ks B lo (.inr (.inr (.inl m)) :: st) ce sl h)))))
theorem o_lbin_ok {f : Nat → Nat → Nat} (row : ∀ {Q : Option q_V → q_H → Prop} {lo st ce sl h a b}, q_W E M Q pc' lo (.inr (.inr (.inl (f a b))) :: st) ce sl h → q_W E M Q pc lo (.inr (.inr (.inl b)) :: .inr (.inr (.inl a)) :: st) ce sl h) : q_OK E tg mt M pc pc' (o_lbin f) := by
  intro Q B lo st ce sl h ks kj kr kc hB hs hj hr hc e
  replace e := e_pop_ok e
  obtain ⟨v, st1, rfl, e⟩ := e
  replace e := e_isL_ok e
  obtain ⟨b, rfl, e⟩ := e
  replace e := e_pop_ok e
  obtain ⟨w, st2, rfl, e⟩ := e
  replace e := e_isL_ok e
  obtain ⟨a, rfl, e⟩ := e
  rw [e_frc_eq] at e
  exact row (hs _ _ _ _ _ _ hB e)
noncomputable def o_lushr : q_Op := fun B lo st ce sl h ks _ _ _ => e_pi B st (fun B b st => e_pop st (fun w st => e_isL w (fun a => cond (Nat.ble (Nat.succ b) 64) (e_frc ((a % 18446744073709551616) / 2 ^ b) (fun m => ks B lo (.inr (.inr (.inl m)) :: st) ce sl h)) false)))
theorem o_lushr_ok (hd : decode M.2.1 pc = .ok (.lushr, 1)) : q_OK E tg mt M pc (pc + 1) o_lushr := by
  intro Q B lo st ce sl h ks kj kr kc hB hs hj hr hc e
  replace e := e_pi_ok hB e
  obtain ⟨v, st1, b, B1, rfl, hB1, e, hv⟩ := e
  replace e := e_pop_ok e
  obtain ⟨w, st2, rfl, e⟩ := e
  replace e := e_isL_ok e
  obtain ⟨a, rfl, e⟩ := e
  obtain ⟨e0, e⟩ := e_cnd e
  rw [e_frc_eq] at e
  exact q_conv hv (q_lushr hd (e_le e0) (hs _ _ _ _ _ _ hB1 e))
noncomputable def o_i2l : q_Op := fun B lo st ce sl h ks _ _ _ => e_pop st (fun v st => e_is v (fun a => e_frc ((q_bi a + 18446744071562067968) % 18446744073709551616) (fun m => ks B lo (.inr (.inr (.inl m)) :: st) ce sl h)) (fun s => ks B lo (.inr (.inr (.inr (.inr (.inl s)))) :: st) ce sl h))
theorem o_i2l_ok (hd : decode M.2.1 pc = .ok (.i2l, 1)) : q_OK E tg mt M pc (pc + 1) o_i2l := by
  intro Q B lo st ce sl h ks kj kr kc hB hs hj hr hc e
  replace e := e_pop_ok e
  obtain ⟨v, st1, rfl, e⟩ := e
  replace e := e_is_ok e
  rcases e with ⟨n, rfl, e⟩ | ⟨s, rfl, e⟩
  · rw [e_frc_eq] at e
    exact q_i2l_ hd (hs _ _ _ _ _ _ hB e)
  · exact q_i2lS hd (hs _ _ _ _ _ _ hB e)
noncomputable def o_l2i : q_Op := fun B lo st ce sl h ks _ _ _ => e_pop st (fun v st => e_isL v (fun a => e_frc (a % 4294967296) (fun m => ks B lo (.inl m :: st) ce sl h)))
theorem o_l2i_ok (hd : decode M.2.1 pc = .ok (.l2i, 1)) : q_OK E tg mt M pc (pc + 1) o_l2i := by
  intro Q B lo st ce sl h ks kj kr kc hB hs hj hr hc e
  replace e := e_pop_ok e
  obtain ⟨v, st1, rfl, e⟩ := e
  replace e := e_isL_ok e
  obtain ⟨n, rfl, e⟩ := e
  rw [e_frc_eq] at e
  exact q_l2i_ hd (hs _ _ _ _ _ _ hB e)
noncomputable def o_i2c : q_Op := fun B lo st ce sl h ks _ _ _ => e_pi B st (fun B a st => e_frc (a % 65536) (fun m => ks B lo (.inl m :: st) ce sl h))
theorem o_i2c_ok (hd : decode M.2.1 pc = .ok (.i2c, 1)) : q_OK E tg mt M pc (pc + 1) o_i2c := by
  intro Q B lo st ce sl h ks kj kr kc hB hs hj hr hc e
  replace e := e_pi_ok hB e
  obtain ⟨v, st1, b, B1, rfl, hB1, e, hv⟩ := e
  rw [e_frc_eq] at e
  exact q_conv hv (q_i2c_ hd (hs _ _ _ _ _ _ hB1 e))
/-- longs compared: two of the program's, or a script's with one of the program's -/
noncomputable def o_lcmp : q_Op := fun B lo st ce sl h ks _ _ _ => e_pop st (fun v st => e_isL v (fun b => e_pop st (fun w st => e_ll w
  (fun a => cond (Nat.ble (Nat.succ (q_bl b)) (q_bl a)) (ks B lo (.inl 1 :: st) ce sl h) (cond (Nat.beq (q_bl a) (q_bl b)) (ks B lo (.inl 0 :: st) ce sl h) (ks B lo (.inl 4294967295 :: st) ce sl h)))
  (fun s => cond (Nat.ble 9223372034707292160 (q_bl b)) (e_frc (q_bl b - 9223372034707292160) (fun c => e_lt B s c (fun B => ks B lo (.inl 4294967295 :: st) ce sl h) (fun B => e_lt B s (Nat.succ c) (fun B => ks B lo (.inl 0 :: st) ce sl h) (fun B => ks B lo (.inl 1 :: st) ce sl h)))) false))))
theorem q_bl_sx (n : Nat) : q_bl (q_sx n) = q_bi n + 9223372034707292160 := by
  unfold q_bl q_sx q_bi
  omega
theorem o_lcmp_ok (hd : decode M.2.1 pc = .ok (.lcmp, 1)) : q_OK E tg mt M pc (pc + 1) o_lcmp := by
  intro Q B lo st ce sl h ks kj kr kc hB hs hj hr hc e
  replace e := e_pop_ok e
  obtain ⟨v, st1, rfl, e⟩ := e
  replace e := e_isL_ok e
  obtain ⟨b, rfl, e⟩ := e
  replace e := e_pop_ok e
  obtain ⟨w, st2, rfl, e⟩ := e
  replace e := e_ll_ok e
  rcases e with ⟨a, rfl, e⟩ | ⟨s, rfl, e⟩
  · refine q_lcmp hd (show q_cdL E (.inr (.inr (.inl a))) = some a from rfl) (show q_cdL E (.inr (.inr (.inl b))) = some b from rfl) (hs _ _ _ _ _ _ hB ?_)
    cases b1 : Nat.ble (Nat.succ (q_bl b)) (q_bl a) with
    | true =>
      rw [b1] at e
      rw [if_pos (show q_bl b < q_bl a from e_le b1)]
      exact e
    | false =>
      rw [b1] at e
      rw [if_neg (show ¬ q_bl b < q_bl a from e_nle b1)]
      cases b2 : Nat.beq (q_bl a) (q_bl b) with
      | true =>
        rw [b2] at e
        rw [if_pos (e_eq b2)]
        exact e
      | false =>
        rw [b2] at e
        rw [if_neg (e_neq b2)]
        exact e
  · obtain ⟨e0, e⟩ := e_cnd e
    have e0 := e_le e0
    rw [e_frc_eq] at e
    have hx := q_bl_sx (E.2.2.2.1 s)
    have key : ∀ B' n, q_inB E B' → (if q_bl b < q_bl (q_sx (E.2.2.2.1 s)) then 1 else if q_bl (q_sx (E.2.2.2.1 s)) = q_bl b then 0 else 4294967295) = n → ks B' lo (.inl n :: st2) ce sl h = true → q_W E M Q pc lo (.inr (.inr (.inl b)) :: .inr (.inr (.inr (.inr (.inl s)))) :: st2) ce sl h := by
      intro B' n hB' hn e
      refine q_lcmp hd (show q_cdL E (.inr (.inr (.inr (.inr (.inl s))))) = some (q_sx (E.2.2.2.1 s)) from rfl) (show q_cdL E (.inr (.inr (.inl b))) = some b from rfl) (hs _ _ _ _ _ _ hB' ?_)
      rw [hn]
      exact e
    replace e := e_lt_ok hB e
    rcases e with ⟨g1, B', g2, g3⟩ | ⟨g1, B', g2, g3⟩
    · exact key B' _ g2 (by rw [if_neg (by omega), if_neg (by omega)]) g3
    · rcases e_lt_ok g2 g3 with ⟨k1, B2, k2, k3⟩ | ⟨k1, B2, k2, k3⟩
      · exact key B2 _ k2 (by rw [if_neg (by omega), if_pos (by omega)]) k3
      · exact key B2 _ k2 (by rw [if_pos (by omega)]) k3
noncomputable def o_dup : q_Op := fun B lo st ce sl h ks _ _ _ => e_pop st (fun v st => cond (Nat.beq (q_cat v) 1) (ks B lo (v :: v :: st) ce sl h) false)
theorem o_dup_ok (hd : decode M.2.1 pc = .ok (.dup, 1)) : q_OK E tg mt M pc (pc + 1) o_dup := by
  intro Q B lo st ce sl h ks kj kr kc hB hs hj hr hc e
  replace e := e_pop_ok e
  obtain ⟨v, st1, rfl, e⟩ := e
  obtain ⟨e0, e⟩ := e_cnd e
  exact q_dup hd (e_eq e0) (hs _ _ _ _ _ _ hB e)
noncomputable def o_dup2 : q_Op := fun B lo st ce sl h ks _ _ _ => e_pop st (fun v st => e_pop st (fun w st => cond (and (Nat.beq (q_cat v) 1) (Nat.beq (q_cat w) 1)) (ks B lo (v :: w :: v :: w :: st) ce sl h) false))
theorem o_dup2_ok (hd : decode M.2.1 pc = .ok (.dup2, 1)) : q_OK E tg mt M pc (pc + 1) o_dup2 := by
  intro Q B lo st ce sl h ks kj kr kc hB hs hj hr hc e
  replace e := e_pop_ok e
  obtain ⟨v, st1, rfl, e⟩ := e
  replace e := e_pop_ok e
  obtain ⟨w, st2, rfl, e⟩ := e
  obtain ⟨e0, e⟩ := e_cnd e
  obtain ⟨e1, e2⟩ := e_and e0
  exact q_dup2 hd (e_eq e1) (e_eq e2) (hs _ _ _ _ _ _ hB e)
noncomputable def o_pop : q_Op := fun B lo st ce sl h ks _ _ _ => e_pop st (fun v st => cond (Nat.beq (q_cat v) 1) (ks B lo st ce sl h) false)
theorem o_pop_ok (hd : decode M.2.1 pc = .ok (.pop, 1)) : q_OK E tg mt M pc (pc + 1) o_pop := by
  intro Q B lo st ce sl h ks kj kr kc hB hs hj hr hc e
  replace e := e_pop_ok e
  obtain ⟨v, st1, rfl, e⟩ := e
  obtain ⟨e0, e⟩ := e_cnd e
  exact q_pop hd (e_eq e0) (hs _ _ _ _ _ _ hB e)
noncomputable def o_goto (b : Nat) : q_Op := fun B lo st ce sl h _ kj _ _ => kj b B lo st ce sl h
theorem o_goto_ok {b : Nat} {off : Int} (hd : decode M.2.1 pc = .ok (.goto off, 3)) (ht : (pc : Int) + off = (tg b : Int)) : q_OK E tg mt M pc pc' (o_goto b) :=
  fun _ _ _ _ _ _ _ _ _ _ _ hB _ hj _ _ e => q_goto hd ht (hj _ _ _ _ _ _ _ hB e)
/-- to the next block, without an instruction -/
noncomputable def o_fall (b : Nat) : q_Op := fun B lo st ce sl h _ kj _ _ => kj b B lo st ce sl h
theorem o_fall_ok {b : Nat} (ht : pc = tg b) : q_OK E tg mt M pc pc' (o_fall b) := by
  intro Q B lo st ce sl h ks kj kr kc hB hs hj hr hc e
  rw [ht]
  exact hj _ _ _ _ _ _ _ hB e
end
