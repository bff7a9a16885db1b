/-! steps over general states -/
noncomputable def x_run (kj : Nat → q_K) (kr : q_KR) (kc : Nat → q_B → List q_V → q_H → q_KR → Bool) (cs : List q_Op) : q_K := List.rec (motive := fun _ => q_K) (fun _ _ _ _ _ _ => false) (fun op _ ih B lo st ce sl h => op B lo st ce sl h ih kj kr kc) cs
theorem x_run_ok {E : q_E} {tg : Nat → Nat} {mt : Nat → q_M} {M : q_M} {Q : Option q_V → q_H → Prop} {kj : Nat → q_K} {kr : q_KR} {kc : Nat → q_B → List q_V → q_H → q_KR → Bool}
    (hj : ∀ b B lo st ce sl h, q_inB E B → kj b B lo st ce sl h = true → q_W E M Q (tg b) lo st ce sl h)
    (hr : ∀ B r h, q_inB E B → kr B r h = true → Q r h)
    (hc : ∀ j B as h kc', q_inB E B → kc j B as h kc' = true → q_P E (mt j) as h (fun r h' => ∃ B', q_inB E B' ∧ kc' B' r h' = true)) :
    ∀ (cs : List q_Op) (pc : Nat) (B : q_B) (lo : q_Lo) (st : List q_V) (ce sl : Nat) (h : q_H), q_okC E tg mt M pc cs → q_inB E B → x_run kj kr kc cs B lo st ce sl h = true → q_W E M Q pc lo st ce sl h
  | [], _, _, _, _, _, _, _, _, _, e => by cases e
  | op :: cs, pc, B, lo, st, ce, sl, h, ⟨pc', h1, h2⟩, hB, e => h1 Q B lo st ce sl h (x_run kj kr kc cs) kj kr kc hB (fun B lo st ce sl h hB e => x_run_ok hj hr hc cs pc' B lo st ce sl h h2 hB e) hj hr hc e
def x_QH (Q : Option q_V → x_S → Prop) : Option q_V → q_H → Prop := fun r h => x_sh h ∧ Q r (x_g h)
/-- from this place of the method, with these locals known, this stack, this state, it ends with Q -/
def x_G (E : q_E) (M : q_M) (Q : Option q_V → x_S → Prop) (pc : Nat) (lo : q_Lo) (st : List q_V) (σ : x_S) : Prop := ∀ lo2 h, x_le lo lo2 → x_sh h → x_g h = σ → q_W E M (x_QH Q) pc lo2 st 0 0 h
/-- the method with these arguments, from this state, ends with Q -/
def x_P (E : q_E) (j : Nat) (as : List q_V) (σ : x_S) (Q : Option q_V → x_S → Prop) : Prop := ∀ h, x_sh h → x_g h = σ → q_P E (q_mt j) as h (x_QH Q)
noncomputable def x_dd (p : Prop) : Bool := @decide p (Classical.propDecidable p)
theorem x_dd_ok {p : Prop} (h : x_dd p = true) : p := @of_decide_eq_true p (Classical.propDecidable p) h
theorem x_dd_in {p : Prop} (h : p) : x_dd p = true := @decide_eq_true p (Classical.propDecidable p) h
theorem q_P_mono {E : q_E} {M : q_M} {as : List q_V} {h : q_H} {Q Q' : Option q_V → q_H → Prop} (hQ : ∀ r h, Q r h → Q' r h) (k : q_P E M as h Q) : q_P E M as h Q' := by
  intro ad0 sz p e a1 a2 a3 s m args below f1 f2 hP hK
  obtain ⟨n, o, g1, g2, g3, ⟨⟨⟨r, h', v, ad', tys', ws', z1, z2, z3, z4⟩, z5⟩, g4⟩⟩ := k ad0 sz p e a1 a2 a3 s m args below f1 f2 hP hK
  exact ⟨n, o, g1, g2, g3, ⟨⟨⟨r, h', v, ad', tys', ws', z1, z2, hQ r h' z3, z4⟩, z5⟩, g4⟩⟩
theorem x_run_c {kj : Nat → q_K} {kr : q_KR} {kc : Nat → q_B → List q_V → q_H → q_KR → Bool} {op : q_Op} {cs : List q_Op} {B : q_B} {lo : q_Lo} {st : List q_V} {ce sl : Nat} {h : q_H} : x_run kj kr kc (op :: cs) B lo st ce sl h = op B lo st ce sl h (x_run kj kr kc cs) kj kr kc := rfl
theorem n_pop {v : q_V} {st : List q_V} {k : q_V → List q_V → Bool} : e_pop (v :: st) k = k v st := rfl
theorem n_is {n : Nat} {ki ks : Nat → Bool} : e_is (.inl n) ki ks = ki n := rfl
theorem n_int {B : q_B} {n : Nat} {k : q_B → Nat → Bool} : e_int B (.inl n) k = k B n := rfl
theorem n_pi {B : q_B} {n : Nat} {st : List q_V} {k : q_B → Nat → List q_V → Bool} : e_pi B (.inl n :: st) k = k B n st := rfl
theorem n_isR {r : Nat} {k : Nat → Bool} : e_isR (.inr (.inl r)) k = k r := rfl
theorem n_isL {r : Nat} {k : Nat → Bool} : e_isL (.inr (.inr (.inl r))) k = k r := rfl
theorem n_ra {r : Nat} {k k' : Nat → Bool} : e_ra (.inr (.inl r)) k k' = k r := rfl
theorem n_raZ {r : Nat} {k k' : Nat → Bool} : e_ra (.inr (.inr (.inr (.inr (.inr (.inl r)))))) k k' = k' r := rfl
theorem n_ll {r : Nat} {k k' : Nat → Bool} : e_ll (.inr (.inr (.inl r))) k k' = k r := rfl
theorem n_nil {k : Bool} : e_nil [] k = k := rfl
theorem n_clt {B : q_B} {n c : Nat} {kt kf : q_B → Bool} : e_clt B (.inl n) c kt kf = cond (Nat.ble (Nat.succ (q_bi n)) c) (kt B) (kf B) := by unfold e_clt; rw [n_is]
theorem n_ceq {B : q_B} {n c : Nat} {kt kf : q_B → Bool} : e_ceq B (.inl n) c kt kf = cond (Nat.beq (q_bi n) c) (kt B) (kf B) := by unfold e_ceq; rw [n_is]
noncomputable def x_kj (E : q_E) (M : q_M) (Q : Option q_V → x_S → Prop) (tg : Nat → Nat) : Nat → q_K := fun b _ lo st ce sl h => x_dd (ce = 0 ∧ sl = 0 ∧ x_sh h ∧ x_G E M Q (tg b) lo st (x_g h))
noncomputable def x_kr (Q : Option q_V → x_S → Prop) : q_KR := fun _ r h => x_dd (x_QH Q r h)
noncomputable def x_kc (E : q_E) : Nat → q_B → List q_V → q_H → q_KR → Bool := fun j _ as h k => x_dd (q_P E (q_mt j) as h (fun r h' => ∃ B', q_inB E B' ∧ k B' r h' = true))
/-- the same, at a row of operations -/
def x_X (E : q_E) (M : q_M) (Q : Option q_V → x_S → Prop) (tg : Nat → Nat) (cs : List q_Op) (lo : q_Lo) (st : List q_V) (σ : x_S) : Prop := ∀ B lo2 h, q_inB E B → x_le lo lo2 → x_sh h → x_g h = σ → x_run (x_kj E M Q tg) (x_kr Q) (x_kc E) cs B lo2 st 0 0 h = true
theorem x_blk {E : q_E} {M : q_M} {Q : Option q_V → x_S → Prop} {tg : Nat → Nat} {bl : List (List q_Op)} {b : Nat} {cs : List q_Op} {lo : q_Lo} {st : List q_V} {σ : x_S} (a : q_okB E tg q_mt M 0 bl) (hb : bl[b]? = some cs) (k : x_X E M Q tg cs lo st σ) : x_G E M Q (tg b) lo st σ := by
  intro lo2 h hlo hs hg
  refine x_run_ok (tg := tg) (mt := q_mt) (kj := x_kj E M Q tg) (kr := x_kr Q) (kc := x_kc E) ?_ ?_ ?_ cs (tg b) [] lo2 st 0 0 h (q_okB_all a b cs hb) q_inB_nil (k [] lo2 h q_inB_nil hlo hs hg)
  · intro b B lo st ce sl h hB e
    obtain ⟨e1, e2, e3, e4⟩ := x_dd_ok e
    subst e1; subst e2
    exact e4 lo h (x_le_rf lo) e3 rfl
  · intro B r h hB e
    exact x_dd_ok e
  · intro j B as h kc' hB e
    exact x_dd_ok e
theorem x_nm {E : q_E} {M : q_M} {p : Nat × List (List q_Op)} (h : q_okM E q_mt M p) : plainName M.1.cls = true := by
  obtain ⟨tg, h1, h2, h3, h4⟩ := h
  exact h4
/-- a method by its first place -/
theorem x_Mt {E : q_E} {j : Nat} {M : q_M} {p : Nat × List (List q_Op)} {as : List q_V} {σ : x_S} {Q : Option q_V → x_S → Prop} (e : q_mt j = M) (hm : q_okM E q_mt M p) (hw : q_wd as ≤ M.2.2.1) (tg : Nat → Nat) (h0 : tg 0 = 0) (k : x_G E M Q (tg 0) (q_args 0 as) [] σ) : x_P E j as σ Q := by
  intro h hs hg
  rw [e]
  rw [h0] at k
  exact q_Pof (x_nm hm) hw (k _ h (x_le_rf _) hs hg)
theorem x_G_lo {E : q_E} {M : q_M} {Q : Option q_V → x_S → Prop} {pc : Nat} {lo lo' : q_Lo} {st : List q_V} {σ : x_S} (hl : x_sb lo' lo) (k : x_G E M Q pc lo' st σ) : x_G E M Q pc lo st σ := fun lo2 h hlo hs hg => k lo2 h (x_le_tr (x_sb_le hl) hlo) hs hg
section
variable {E : q_E} {M : q_M} {Q : Option q_V → x_S → Prop} {tg : Nat → Nat} {cs : List q_Op} {lo : q_Lo} {st : List q_V} {σ : x_S}
theorem x_eq {x y : Int} (h : x_c x = x_c y) (k : x_X E M Q tg cs lo (x_I y :: st) σ) : x_X E M Q tg cs lo (x_I x :: st) σ := by
  show x_X E M Q tg cs lo (.inl (x_c x) :: st) σ
  rw [h]
  exact k
theorem x_push {n : Nat} (x : Int) (h : x_c x = n) (k : x_X E M Q tg cs lo (x_I x :: st) σ) : x_X E M Q tg (o_push (.inl n) :: cs) lo st σ := by
  subst h
  exact fun B lo2 h hB hlo hs hg => k B lo2 h hB hlo hs hg
theorem x_pushv {v : q_V} (k : x_X E M Q tg cs lo (v :: st) σ) : x_X E M Q tg (o_push v :: cs) lo st σ := fun B lo2 h hB hlo hs hg => k B lo2 h hB hlo hs hg
theorem x_iload {i n : Nat} (hl : q_lg lo i = some (.inl n)) (k : x_X E M Q tg cs lo (.inl n :: st) σ) : x_X E M Q tg (o_iload i :: cs) lo st σ := by
  intro B lo2 h hB hlo hs hg
  rw [x_run_c]
  unfold o_iload
  rw [f_lg (hlo _ _ hl), n_is]
  exact k B lo2 h hB hlo hs hg
theorem x_aload {i r : Nat} (hl : q_lg lo i = some (.inr (.inl r))) (k : x_X E M Q tg cs lo (.inr (.inl r) :: st) σ) : x_X E M Q tg (o_aload i :: cs) lo st σ := by
  intro B lo2 h hB hlo hs hg
  rw [x_run_c]
  unfold o_aload
  rw [f_lg (hlo _ _ hl), n_ra]
  exact k B lo2 h hB hlo hs hg
theorem x_lload {i n : Nat} (hl : q_lg lo i = some (.inr (.inr (.inl n)))) (k : x_X E M Q tg cs lo (.inr (.inr (.inl n)) :: st) σ) : x_X E M Q tg (o_lload i :: cs) lo st σ := by
  intro B lo2 h hB hlo hs hg
  rw [x_run_c]
  unfold o_lload
  rw [f_lg (hlo _ _ hl), n_ll]
  exact k B lo2 h hB hlo hs hg
theorem x_istore {i n : Nat} (k : x_X E M Q tg cs (x_st lo i (.inl n)) st σ) : x_X E M Q tg (o_istore i :: cs) lo (.inl n :: st) σ := by
  intro B lo2 h hB hlo hs hg
  rw [x_run_c]
  unfold o_istore
  rw [n_pop, n_is, f_ls1]
  exact k B _ h hB (x_st_le hlo) hs hg
theorem x_astore {i r : Nat} (k : x_X E M Q tg cs (x_st lo i (.inr (.inl r))) st σ) : x_X E M Q tg (o_astore i :: cs) lo (.inr (.inl r) :: st) σ := by
  intro B lo2 h hB hlo hs hg
  rw [x_run_c]
  unfold o_astore
  rw [n_pop, n_isR, f_ls1]
  exact k B _ h hB (x_st_le hlo) hs hg
theorem x_iinc {i b : Nat} {a : Int} (c : Int) (hl : q_lg lo i = some (x_I a)) (hb : x_c c = b) (k : x_X E M Q tg cs (x_st lo i (x_I (a + c))) st σ) : x_X E M Q tg (o_iinc i b :: cs) lo st σ := by
  intro B lo2 h hB hlo hs hg
  rw [x_run_c]
  unfold o_iinc
  rw [f_lg (hlo _ _ hl), n_is, e_frc_eq, f_ls1, ← hb, x_add]
  exact k B _ h hB (x_st_le hlo) hs hg
theorem x_bin {f : Nat → Nat → Nat} {a b : Int} (c : Int) (hf : f (x_c a) (x_c b) = x_c c) (k : x_X E M Q tg cs lo (x_I c :: st) σ) : x_X E M Q tg (o_bin f :: cs) lo (x_I b :: x_I a :: st) σ := by
  intro B lo2 h hB hlo hs hg
  rw [x_run_c]
  unfold o_bin
  rw [n_pi, n_pi, e_frc_eq, hf]
  exact k B lo2 h hB hlo hs hg
theorem x_iadd {a b : Int} (k : x_X E M Q tg cs lo (x_I (a + b) :: st) σ) : x_X E M Q tg (o_bin f_iadd :: cs) lo (x_I b :: x_I a :: st) σ := x_bin (a + b) (x_add a b) k
theorem x_isub {a b : Int} (k : x_X E M Q tg cs lo (x_I (a - b) :: st) σ) : x_X E M Q tg (o_bin f_isub :: cs) lo (x_I b :: x_I a :: st) σ := x_bin (a - b) (x_sub a b) k
theorem x_imul {a b : Int} (k : x_X E M Q tg cs lo (x_I (a * b) :: st) σ) : x_X E M Q tg (o_bin f_imul :: cs) lo (x_I b :: x_I a :: st) σ := x_bin (a * b) (x_mul a b) k
theorem x_binc {g : Nat → Nat → Bool} {f : Nat → Nat → Nat} {a b : Int} (c : Int) (hg : g (x_c a) (x_c b) = true) (hf : f (x_c a) (x_c b) = x_c c) (k : x_X E M Q tg cs lo (x_I c :: st) σ) : x_X E M Q tg (o_binc g f :: cs) lo (x_I b :: x_I a :: st) σ := by
  intro B lo2 h hB hlo hs hgg
  rw [x_run_c]
  unfold o_binc
  rw [n_pi, n_pi, hg, cond_true, e_frc_eq, hf]
  exact k B lo2 h hB hlo hs hgg
theorem x_idiv {a b : Int} (ha : 0 ≤ a) (ha2 : a ≤ 2147483647) (hb : 0 < b) (hb2 : b ≤ 2147483647) (k : x_X E M Q tg cs lo (x_I (a / b) :: st) σ) : x_X E M Q tg (o_binc g_idiv f_idiv :: cs) lo (x_I b :: x_I a :: st) σ := by
  have h1 := x_c_nat ha (by omega)
  have h2 := x_c_nat (Int.le_of_lt hb) (by omega)
  refine x_binc (a / b) ?_ ?_ k
  · unfold g_idiv
    rw [f_ble (by omega), f_ble (by omega), f_ble (by omega)]
    rfl
  · unfold f_idiv
    have h3 : ((x_c a / x_c b : Nat) : Int) = a / b := by rw [Int.natCast_ediv, h1, h2]
    have h4 : a / b ≤ a := Int.ediv_le_self b ha
    have h5 : 0 ≤ a / b := Int.ediv_nonneg ha (Int.le_of_lt hb)
    have h6 := x_c_nat h5 (by omega)
    omega
theorem x_irem {a b : Int} (ha : 0 ≤ a) (ha2 : a ≤ 2147483647) (hb : 0 < b) (hb2 : b ≤ 2147483647) (k : x_X E M Q tg cs lo (x_I (a % b) :: st) σ) : x_X E M Q tg (o_binc g_irem f_irem :: cs) lo (x_I b :: x_I a :: st) σ := by
  have h1 := x_c_nat ha (by omega)
  have h2 := x_c_nat (Int.le_of_lt hb) (by omega)
  refine x_binc (a % b) ?_ ?_ k
  · unfold g_irem
    rw [f_ble (by omega), f_ble (by omega), f_ble (by omega)]
    rfl
  · unfold f_irem
    have h3 : ((x_c a % x_c b : Nat) : Int) = a % b := by rw [Int.natCast_emod, h1, h2]
    have h4 : a % b < b := Int.emod_lt_of_pos a hb
    have h5 : 0 ≤ a % b := Int.emod_nonneg a (by omega)
    have h6 := x_c_nat h5 (by omega)
    omega
theorem x_dup {v : q_V} (hc : q_cat v = 1) (k : x_X E M Q tg cs lo (v :: v :: st) σ) : x_X E M Q tg (o_dup :: cs) lo (v :: st) σ := by
  intro B lo2 h hB hlo hs hg
  rw [x_run_c]
  unfold o_dup
  rw [n_pop, hc]
  exact k B lo2 h hB hlo hs hg
theorem x_dup2 {v w : q_V} (hc : q_cat v = 1) (hc2 : q_cat w = 1) (k : x_X E M Q tg cs lo (v :: w :: v :: w :: st) σ) : x_X E M Q tg (o_dup2 :: cs) lo (v :: w :: st) σ := by
  intro B lo2 h hB hlo hs hg
  rw [x_run_c]
  unfold o_dup2
  rw [n_pop, n_pop, hc, hc2]
  exact k B lo2 h hB hlo hs hg
theorem x_pop {v : q_V} (hc : q_cat v = 1) (k : x_X E M Q tg cs lo st σ) : x_X E M Q tg (o_pop :: cs) lo (v :: st) σ := by
  intro B lo2 h hB hlo hs hg
  rw [x_run_c]
  unfold o_pop
  rw [n_pop, hc]
  exact k B lo2 h hB hlo hs hg
theorem x_jmp {b : Nat} {B : q_B} {lo2 : q_Lo} {h : q_H} (hlo : x_le lo lo2) (hs : x_sh h) (hg : x_g h = σ) (k : x_G E M Q (tg b) lo st σ) : x_kj E M Q tg b B lo2 st 0 0 h = true := by
  refine x_dd_in ⟨rfl, rfl, hs, ?_⟩
  intro lo3 h' hlo' hs' hg'
  exact k lo3 h' (x_le_tr hlo hlo') hs' (hg'.trans hg)
theorem x_goto {b : Nat} (k : x_G E M Q (tg b) lo st σ) : x_X E M Q tg (o_goto b :: cs) lo st σ := by
  intro B lo2 h hB hlo hs hg
  rw [x_run_c]
  exact x_jmp (B := B) hlo hs hg k
theorem x_fall {b : Nat} (k : x_G E M Q (tg b) lo st σ) : x_X E M Q tg (o_fall b :: cs) lo st σ := by
  intro B lo2 h hB hlo hs hg
  rw [x_run_c]
  exact x_jmp (B := B) hlo hs hg k
theorem x_clt {x : Int} {c : Nat} (d : Int) (hc : (c : Int) = d + 2147483648) (h1 : -2147483648 ≤ x) (h2 : x ≤ 2147483647) {B : q_B} {kt kf : q_B → Bool} (ht : x < d → kt B = true) (hf : ¬ x < d → kf B = true) : e_clt B (x_I x) c kt kf = true := by
  have hb := x_bi h1 h2
  rw [n_clt]
  by_cases z : x < d
  · rw [f_ble (by omega)]; exact ht z
  · rw [f_nble (by omega)]; exact hf z
theorem x_ceq {x : Int} {c : Nat} (d : Int) (hc : (c : Int) = d + 2147483648) (h1 : -2147483648 ≤ x) (h2 : x ≤ 2147483647) {B : q_B} {kt kf : q_B → Bool} (ht : x = d → kt B = true) (hf : ¬ x = d → kf B = true) : e_ceq B (x_I x) c kt kf = true := by
  have hb := x_bi h1 h2
  rw [n_ceq]
  by_cases z : x = d
  · rw [f_beq (by omega)]; exact ht z
  · rw [f_nbeq (by omega)]; exact hf z
theorem x_if_eq {b : Nat} {x : Int} (h1 : -2147483648 ≤ x) (h2 : x ≤ 2147483647) (ht : x = 0 → x_G E M Q (tg b) lo st σ) (hf : ¬ x = 0 → x_X E M Q tg cs lo st σ) : x_X E M Q tg (o_if_eq b :: cs) lo (x_I x :: st) σ := by
  intro B lo2 h hB hlo hs hg
  rw [x_run_c]
  unfold o_if_eq
  rw [n_pop]
  refine x_ceq 0 (by omega) h1 h2 (fun z => ?_) (fun z => ?_)
  · exact x_jmp (B := B) hlo hs hg (ht z)
  · exact (hf z) B lo2 h hB hlo hs hg
theorem x_icmp_eq {b : Nat} {x y : Int} (h1 : -2147483648 ≤ x) (h2 : x ≤ 2147483647) (h3 : -2147483648 ≤ y) (h4 : y ≤ 2147483647) (ht : x = y → x_G E M Q (tg b) lo st σ) (hf : ¬ x = y → x_X E M Q tg cs lo st σ) : x_X E M Q tg (o_icmp_eq b :: cs) lo (x_I y :: x_I x :: st) σ := by
  intro B lo2 h hB hlo hs hg
  have hy := x_bi h3 h4
  rw [x_run_c]
  unfold o_icmp_eq
  rw [n_pi, n_pop, e_frc_eq]
  refine x_ceq y (by omega) h1 h2 (fun z => ?_) (fun z => ?_)
  · exact x_jmp (B := B) hlo hs hg (ht z)
  · exact (hf z) B lo2 h hB hlo hs hg
theorem x_if_ne {b : Nat} {x : Int} (h1 : -2147483648 ≤ x) (h2 : x ≤ 2147483647) (ht : x = 0 → x_X E M Q tg cs lo st σ) (hf : ¬ x = 0 → x_G E M Q (tg b) lo st σ) : x_X E M Q tg (o_if_ne b :: cs) lo (x_I x :: st) σ := by
  intro B lo2 h hB hlo hs hg
  rw [x_run_c]
  unfold o_if_ne
  rw [n_pop]
  refine x_ceq 0 (by omega) h1 h2 (fun z => ?_) (fun z => ?_)
  · exact (ht z) B lo2 h hB hlo hs hg
  · exact x_jmp (B := B) hlo hs hg (hf z)
theorem x_icmp_ne {b : Nat} {x y : Int} (h1 : -2147483648 ≤ x) (h2 : x ≤ 2147483647) (h3 : -2147483648 ≤ y) (h4 : y ≤ 2147483647) (ht : x = y → x_X E M Q tg cs lo st σ) (hf : ¬ x = y → x_G E M Q (tg b) lo st σ) : x_X E M Q tg (o_icmp_ne b :: cs) lo (x_I y :: x_I x :: st) σ := by
  intro B lo2 h hB hlo hs hg
  have hy := x_bi h3 h4
  rw [x_run_c]
  unfold o_icmp_ne
  rw [n_pi, n_pop, e_frc_eq]
  refine x_ceq y (by omega) h1 h2 (fun z => ?_) (fun z => ?_)
  · exact (ht z) B lo2 h hB hlo hs hg
  · exact x_jmp (B := B) hlo hs hg (hf z)
theorem x_if_lt {b : Nat} {x : Int} (h1 : -2147483648 ≤ x) (h2 : x ≤ 2147483647) (ht : x < 0 → x_G E M Q (tg b) lo st σ) (hf : ¬ x < 0 → x_X E M Q tg cs lo st σ) : x_X E M Q tg (o_if_lt b :: cs) lo (x_I x :: st) σ := by
  intro B lo2 h hB hlo hs hg
  rw [x_run_c]
  unfold o_if_lt
  rw [n_pop]
  refine x_clt 0 (by omega) h1 h2 (fun z => ?_) (fun z => ?_)
  · exact x_jmp (B := B) hlo hs hg (ht z)
  · exact (hf z) B lo2 h hB hlo hs hg
theorem x_icmp_lt {b : Nat} {x y : Int} (h1 : -2147483648 ≤ x) (h2 : x ≤ 2147483647) (h3 : -2147483648 ≤ y) (h4 : y ≤ 2147483647) (ht : x < y → x_G E M Q (tg b) lo st σ) (hf : ¬ x < y → x_X E M Q tg cs lo st σ) : x_X E M Q tg (o_icmp_lt b :: cs) lo (x_I y :: x_I x :: st) σ := by
  intro B lo2 h hB hlo hs hg
  have hy := x_bi h3 h4
  rw [x_run_c]
  unfold o_icmp_lt
  rw [n_pi, n_pop, e_frc_eq]
  refine x_clt y (by omega) h1 h2 (fun z => ?_) (fun z => ?_)
  · exact x_jmp (B := B) hlo hs hg (ht z)
  · exact (hf z) B lo2 h hB hlo hs hg
theorem x_if_ge {b : Nat} {x : Int} (h1 : -2147483648 ≤ x) (h2 : x ≤ 2147483647) (ht : x < 0 → x_X E M Q tg cs lo st σ) (hf : ¬ x < 0 → x_G E M Q (tg b) lo st σ) : x_X E M Q tg (o_if_ge b :: cs) lo (x_I x :: st) σ := by
  intro B lo2 h hB hlo hs hg
  rw [x_run_c]
  unfold o_if_ge
  rw [n_pop]
  refine x_clt 0 (by omega) h1 h2 (fun z => ?_) (fun z => ?_)
  · exact (ht z) B lo2 h hB hlo hs hg
  · exact x_jmp (B := B) hlo hs hg (hf z)
theorem x_icmp_ge {b : Nat} {x y : Int} (h1 : -2147483648 ≤ x) (h2 : x ≤ 2147483647) (h3 : -2147483648 ≤ y) (h4 : y ≤ 2147483647) (ht : x < y → x_X E M Q tg cs lo st σ) (hf : ¬ x < y → x_G E M Q (tg b) lo st σ) : x_X E M Q tg (o_icmp_ge b :: cs) lo (x_I y :: x_I x :: st) σ := by
  intro B lo2 h hB hlo hs hg
  have hy := x_bi h3 h4
  rw [x_run_c]
  unfold o_icmp_ge
  rw [n_pi, n_pop, e_frc_eq]
  refine x_clt y (by omega) h1 h2 (fun z => ?_) (fun z => ?_)
  · exact (ht z) B lo2 h hB hlo hs hg
  · exact x_jmp (B := B) hlo hs hg (hf z)
theorem x_if_gt {b : Nat} {x : Int} (h1 : -2147483648 ≤ x) (h2 : x ≤ 2147483647) (ht : x ≤ 0 → x_X E M Q tg cs lo st σ) (hf : ¬ x ≤ 0 → x_G E M Q (tg b) lo st σ) : x_X E M Q tg (o_if_gt b :: cs) lo (x_I x :: st) σ := by
  intro B lo2 h hB hlo hs hg
  rw [x_run_c]
  unfold o_if_gt
  rw [n_pop]
  refine x_clt 1 (by omega) h1 h2 (fun z => ?_) (fun z => ?_)
  · exact (ht (by omega)) B lo2 h hB hlo hs hg
  · exact x_jmp (B := B) hlo hs hg (hf (by omega))
theorem x_icmp_gt {b : Nat} {x y : Int} (h1 : -2147483648 ≤ x) (h2 : x ≤ 2147483647) (h3 : -2147483648 ≤ y) (h4 : y ≤ 2147483647) (ht : x ≤ y → x_X E M Q tg cs lo st σ) (hf : ¬ x ≤ y → x_G E M Q (tg b) lo st σ) : x_X E M Q tg (o_icmp_gt b :: cs) lo (x_I y :: x_I x :: st) σ := by
  intro B lo2 h hB hlo hs hg
  have hy := x_bi h3 h4
  rw [x_run_c]
  unfold o_icmp_gt
  rw [n_pi, n_pop, e_frc_eq]
  refine x_clt (y + 1) (by omega) h1 h2 (fun z => ?_) (fun z => ?_)
  · exact (ht (by omega)) B lo2 h hB hlo hs hg
  · exact x_jmp (B := B) hlo hs hg (hf (by omega))
theorem x_if_le {b : Nat} {x : Int} (h1 : -2147483648 ≤ x) (h2 : x ≤ 2147483647) (ht : x ≤ 0 → x_G E M Q (tg b) lo st σ) (hf : ¬ x ≤ 0 → x_X E M Q tg cs lo st σ) : x_X E M Q tg (o_if_le b :: cs) lo (x_I x :: st) σ := by
  intro B lo2 h hB hlo hs hg
  rw [x_run_c]
  unfold o_if_le
  rw [n_pop]
  refine x_clt 1 (by omega) h1 h2 (fun z => ?_) (fun z => ?_)
  · exact x_jmp (B := B) hlo hs hg (ht (by omega))
  · exact (hf (by omega)) B lo2 h hB hlo hs hg
theorem x_icmp_le {b : Nat} {x y : Int} (h1 : -2147483648 ≤ x) (h2 : x ≤ 2147483647) (h3 : -2147483648 ≤ y) (h4 : y ≤ 2147483647) (ht : x ≤ y → x_G E M Q (tg b) lo st σ) (hf : ¬ x ≤ y → x_X E M Q tg cs lo st σ) : x_X E M Q tg (o_icmp_le b :: cs) lo (x_I y :: x_I x :: st) σ := by
  intro B lo2 h hB hlo hs hg
  have hy := x_bi h3 h4
  rw [x_run_c]
  unfold o_icmp_le
  rw [n_pi, n_pop, e_frc_eq]
  refine x_clt (y + 1) (by omega) h1 h2 (fun z => ?_) (fun z => ?_)
  · exact x_jmp (B := B) hlo hs hg (ht (by omega))
  · exact (hf (by omega)) B lo2 h hB hlo hs hg
end
