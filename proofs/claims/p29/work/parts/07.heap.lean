theorem q_set_self {α : Type} {l : List α} {i : Nat} {a : α} (h : l[i]? = some a) : l.set i a = l := by
  apply List.ext_getElem?
  intro j
  rw [List.getElem?_set]
  by_cases e : i = j
  · subst e
    rw [if_pos rfl, if_pos (List.getElem?_eq_some_iff.mp h).1, h]
  · rw [if_neg e]
theorem q_hr_set {tys : List (ClassId × FieldType)} {ad : List Nat} {h : q_H} {ws : va_W} {r a : Nat} {c c0 : q_C} {e : va_E} (H : q_hr tys ad h ws) (h0 : q_get h r = some c0) (ha : ad[r]? = some a) (hc : q_cr tys ad c e) : q_hr tys ad (q_put h r c) (ws.set r (a, e)) := by
  obtain ⟨g1, g2, g3, g4⟩ := H
  have g1' : (ws.set r (a, e)).map (fun q => q.1) = ad := by
    rw [List.map_set, g1]
    exact q_set_self ha
  refine ⟨g1', by rw [q_cnt_put.1]; exact g2, q_cnt_put.2 g3, fun r' c' h' => ?_⟩
  rw [q_get_put h0] at h'
  by_cases e1 : r' = r
  · rw [if_pos e1] at h'
    cases h'
    subst e1
    obtain ⟨a', e', k1, k2, k3⟩ := g4 r' c0 h0
    rw [ha] at k1
    cases k1
    exact ⟨a, e, ha, by rw [List.getElem?_set, if_pos rfl, if_pos (List.getElem?_eq_some_iff.mp k2).1], hc⟩
  · rw [if_neg e1] at h'
    obtain ⟨a', e', k1, k2, k3⟩ := g4 r' c' h'
    exact ⟨a', e', k1, by rw [List.getElem?_set, if_neg (fun q => e1 q.symm)]; exact k2, k3⟩
theorem q_hr_push {tys t2 : List (ClassId × FieldType)} {ad : List Nat} {h : q_H} {ws : va_W} {q : Nat} {c : q_C} {e : va_E} (H : q_hr tys ad h ws) (hc : q_cr (tys ++ t2) (ad ++ [q]) c e) : q_hr (tys ++ t2) (ad ++ [q]) (q_push h c) (ws ++ [(q, e)]) := by
  obtain ⟨g1, g2, g3, g4⟩ := H
  obtain ⟨k1, k2⟩ := q_cnt_push (c := c) g3
  refine ⟨by simp [g1], by rw [k1, g2]; simp, k2, fun r' c' h' => ?_⟩
  rw [q_get_push g3] at h'
  by_cases e1 : r' = q_cnt h
  · rw [if_pos e1] at h'
    cases h'
    subst e1
    refine ⟨q, e, ?_, ?_, hc⟩
    · rw [g2]; simp
    · rw [g2, ← g1]; simp
  · rw [if_neg e1] at h'
    obtain ⟨a', e', k1, k2, k3⟩ := g4 r' c' h'
    exact ⟨a', e', by rw [List.getElem?_append_left (List.getElem?_eq_some_iff.mp k1).1]; exact k1, by rw [List.getElem?_append_left (List.getElem?_eq_some_iff.mp k2).1]; exact k2, q_cr_mono k3⟩
theorem q_new_ref {tys : List (ClassId × FieldType)} {ad : List Nat} {h : q_H} {ws : va_W} {q : Nat} (H : q_hr tys ad h ws) : (ad ++ [q])[q_cnt h]? = some q := by
  rw [H.2.1]; simp
/-- the classes' own words, types and names -/
theorem q_cw : ∀ ci (q : vw_C), q_cl[ci]? = some q → (∀ w ∈ u_ws q.1 q.2.1 q.2.2, w ∈ q_gd) ∧ (∀ k, k < q.2.2 → parseFieldDescriptor (q.2.1 k).2.2.1 = some (q_ty ci k)) ∧ (∀ a, a < q.2.2 → ∀ b, b < q.2.2 → a ≠ b → (q.2.1 a).2.1 ≠ (q.2.1 b).2.1) := by
  intro ci q hq
  match ci, hq with
  | 0, hq => cases hq; exact ⟨by decide +kernel, tyX0_ok, nmX0⟩
  | 1, hq => cases hq; exact ⟨by decide +kernel, tyX2_ok, nmX2⟩
  | 2, hq => cases hq; exact ⟨by decide +kernel, tyX2_ok, nmX2⟩
  | 3, hq => cases hq; exact ⟨by decide +kernel, tyX3_ok, nmX3⟩
  | 4, hq => cases hq; exact ⟨by decide +kernel, tyX4_ok, nmX4⟩
  | 5, hq => cases hq; exact ⟨by decide +kernel, tyX5_ok, nmX5⟩
  | 6, hq => cases hq; exact ⟨by decide +kernel, tyX6_ok, nmX6⟩
  | 7, hq => cases hq; exact ⟨by decide +kernel, tyX7_ok, nmX7⟩
  | 8, hq => cases hq; exact ⟨by decide +kernel, tyX8_ok, nmX8⟩
  | 9, hq => cases hq; exact ⟨by decide +kernel, tyX9_ok, nmX9⟩
  | k + 10, hq => simp [q_cl] at hq
/-- the object of a class at a cell -/
theorem q_obj {tys : List (ClassId × FieldType)} {ad : List Nat} {h : q_H} {ws : va_W} {r ci n d : Nat} (H : q_hr tys ad h ws) (hc : q_get h r = some (ci + 5, n, d)) : ∃ a fs q, ad[r]? = some a ∧ ws[r]? = some (a, .inr (ci, fs)) ∧ q_cl[ci]? = some q ∧ n = q.2.2 ∧ fs.length = n ∧ ∀ k, k < n → ∃ v, fs[k]? = some v ∧ q_fr (q_isr (q_ty ci k)) ad (q_rd d k) v := by
  obtain ⟨a, e, k1, k2, k3⟩ := H.2.2.2 r _ hc
  rcases k3 with ⟨g, -⟩ | ⟨g, -⟩ | ⟨g, -⟩ | ⟨g, -⟩ | ⟨g, -⟩ | ⟨ci', fs, q, g1, g2, g3, g4, g5, g6⟩
  · have g : ci + 5 = 0 := g; omega
  · have g : ci + 5 = 1 := g; omega
  · have g : ci + 5 = 2 := g; omega
  · have g : ci + 5 = 3 := g; omega
  · have g : ci + 5 = 4 := g; omega
  · have g1 : ci + 5 = ci' + 5 := g1
    have : ci' = ci := by omega
    subst this
    subst g4
    exact ⟨a, fs, q, k1, k2, g2, g3, g5, g6⟩
/-- an array of whole numbers (not longs) of type ty at a cell -/
def q_kt (t : Nat) : FieldType := match t with
  | 0 => .int | 2 => .char | _ => .boolean
theorem q_arr {tys : List (ClassId × FieldType)} {ad : List Nat} {h : q_H} {ws : va_W} {r t n d : Nat} (H : q_hr tys ad h ws) (hc : q_get h r = some (t, n, d)) (ht : t = 0 ∨ t = 2 ∨ t = 3) : ∃ (a : Nat) (cA : ClassId) (t0 : Nat), ad[r]? = some a ∧ tys[t0]? = some (cA, q_kt t) ∧ ws[r]? = some (a, .inl (cA, n, .inl (fun i => nI (q_rd d i)))) := by
  obtain ⟨a, e, k1, k2, k3⟩ := H.2.2.2 r _ hc
  rcases k3 with ⟨g, cA, t0, g1, g2⟩ | ⟨g, -⟩ | ⟨g, cA, t0, g1, g2⟩ | ⟨g, cA, t0, g1, g2⟩ | ⟨g, -⟩ | ⟨ci', fs, q, g1, -⟩
  · have g : t = 0 := g
    subst g; subst g2
    exact ⟨a, cA, t0, k1, g1, k2⟩
  · have g : t = 1 := g; omega
  · have g : t = 2 := g
    subst g; subst g2
    exact ⟨a, cA, t0, k1, g1, k2⟩
  · have g : t = 3 := g
    subst g; subst g2
    exact ⟨a, cA, t0, k1, g1, k2⟩
  · have g : t = 4 := g; omega
  · have g1 : t = ci' + 5 := g1; omega
theorem q_arrL {tys : List (ClassId × FieldType)} {ad : List Nat} {h : q_H} {ws : va_W} {r n d : Nat} (H : q_hr tys ad h ws) (hc : q_get h r = some (1, n, d)) : ∃ (a : Nat) (cA : ClassId) (t0 : Nat), ad[r]? = some a ∧ tys[t0]? = some (cA, FieldType.long) ∧ ws[r]? = some (a, .inl (cA, n, .inr (.inl (fun i => lN (q_rd d i))))) := by
  obtain ⟨a, e, k1, k2, k3⟩ := H.2.2.2 r _ hc
  rcases k3 with ⟨g, -⟩ | ⟨g, cA, t0, g1, g2⟩ | ⟨g, -⟩ | ⟨g, -⟩ | ⟨g, -⟩ | ⟨ci', fs, q, g1, -⟩
  · have g : 1 = 0 := g; omega
  · subst g2
    exact ⟨a, cA, t0, k1, g1, k2⟩
  · have g : 1 = 2 := g; omega
  · have g : 1 = 3 := g; omega
  · have g : 1 = 4 := g; omega
  · have g1 : 1 = ci' + 5 := g1; omega
theorem q_arrR {tys : List (ClassId × FieldType)} {ad : List Nat} {h : q_H} {ws : va_W} {r n d : Nat} (H : q_hr tys ad h ws) (hc : q_get h r = some (4, n, d)) : ∃ (a : Nat) (cA : ClassId) (t0 : Nat) (f : Nat → Option Nat), ad[r]? = some a ∧ tys[t0]? = some (cA, FieldType.object RX2) ∧ ws[r]? = some (a, .inl (cA, n, .inr (.inr (.inr (.inr f))))) ∧ ∀ i, q_opt ad (q_rd d i) (f i) := by
  obtain ⟨a, e, k1, k2, k3⟩ := H.2.2.2 r _ hc
  rcases k3 with ⟨g, -⟩ | ⟨g, -⟩ | ⟨g, -⟩ | ⟨g, -⟩ | ⟨g, cA, t0, f, g1, g2, g3⟩ | ⟨ci', fs, q, g1, -⟩
  · have g : 4 = 0 := g; omega
  · have g : 4 = 1 := g; omega
  · have g : 4 = 2 := g; omega
  · have g : 4 = 3 := g; omega
  · subst g2
    exact ⟨a, cA, t0, f, k1, g1, k2, g3⟩
  · have g1 : 4 = ci' + 5 := g1; omega
/-- the word that links a field -/
def q_fl (M : q_M) (idx ci k : Nat) : Prop := ∃ q : vw_C, q_cl[ci]? = some q ∧ k < q.2.2 ∧ (Cond.fieldLink M.1.cls idx (q.2.1 k).1 (q.2.1 k).2.1 (q.2.1 k).2.2.1 ∈ q_gd ∨ ∃ host, Cond.fieldLinkNest M.1.cls idx (q.2.1 k).1 (q.2.1 k).2.1 (q.2.1 k).2.2.1 host ∈ q_nst)
section
variable {E : q_E} {M : q_M} {Q : Option q_V → q_H → Prop} {pc : Nat} {lo : q_Lo} {st : List q_V} {ce sl : Nat} {h : q_H}
theorem q_getf {r ci k idx n d : Nat} {x : q_V} (hd : decode M.2.1 pc = .ok (.getfield idx, 3)) (hf : q_fl M idx ci k) (hc : q_get h r = some (ci + 5, n, d))
    (hx : ∀ ad v, q_fr (q_isr (q_ty ci k)) ad (q_rd d k) v → q_vr E ad x v)
    (kk : q_W E M Q (pc + 3) lo (x :: st) ce sl h) : q_W E M Q pc lo (.inr (.inl r) :: st) ce sl h := by
  intro p e R s m args below meth c A ad0 Z H locs ls stv C T Rt
  obtain ⟨ad, tys, ws, lv, h1, h2, h3, h4, h5⟩ := T
  match stv, h4 with
  | v0 :: stv, ⟨⟨a0, e0, e1⟩, h4⟩ =>
    subst e1
    obtain ⟨q, f1, f2, f3⟩ := hf
    obtain ⟨a, fs, q', g1, g2, g3, g4, g5, g6⟩ := q_obj h5.1 hc
    rw [f1] at g3
    cases g3
    rw [g1] at e0
    cases e0
    obtain ⟨v, w1, w2⟩ := g6 k (by rw [g4]; exact f2)
    have kz := kk.go (stv := v :: stv) C ⟨ad, tys, ws, lv, h1, h2, h3, ⟨hx ad v w2, h4⟩, h5⟩ Rt
    rcases f3 with f3 | ⟨host, f3⟩
    · exact va_get C.1.1 C.1.2 C.2.2.2.2.2.1 (q_cw ci q f1).1 C.2.2.2.2.1 h2 h5.2.1 r g2 f1 k f2 (C.2.2.2.2.2.1 _ f3) (fun _ z => z) w1 hd kz
    · exact va_getN C.1.1 C.1.2 C.2.2.2.2.2.1 (q_cw ci q f1).1 C.2.2.2.2.1 h2 h5.2.1 r g2 f1 k f2 (q_Cx_nst C f3) (fun _ z => z) w1 hd kz
theorem q_getI {r ci k idx n d : Nat} (hd : decode M.2.1 pc = .ok (.getfield idx, 3)) (hf : q_fl M idx ci k) (hi : q_isr (q_ty ci k) = false) (hc : q_get h r = some (ci + 5, n, d))
    (kk : q_W E M Q (pc + 3) lo (.inl (q_rd d k) :: st) ce sl h) : q_W E M Q pc lo (.inr (.inl r) :: st) ce sl h :=
  q_getf hd hf hc (fun ad v z => by rw [hi] at z; exact z) kk
theorem q_getR {r r' ci k idx n d : Nat} (hd : decode M.2.1 pc = .ok (.getfield idx, 3)) (hf : q_fl M idx ci k) (hi : q_isr (q_ty ci k) = true) (hc : q_get h r = some (ci + 5, n, d)) (hr : q_rd d k = r' + 1)
    (kk : q_W E M Q (pc + 3) lo (.inr (.inl r') :: st) ce sl h) : q_W E M Q pc lo (.inr (.inl r) :: st) ce sl h :=
  q_getf hd hf hc (fun ad v z => by
    rw [hi] at z
    rcases z with ⟨z, -⟩ | ⟨r2, a, z1, z2, z3⟩
    · omega
    · have : r2 = r' := by omega
      subst this
      exact ⟨a, z2, z3⟩) kk
/-- putfield: the value's word is w -/
theorem q_putf {r ci k idx n d w : Nat} {x : q_V} (hd : decode M.2.1 pc = .ok (.putfield idx, 3)) (hf : q_fl M idx ci k) (hc : q_get h r = some (ci + 5, n, d)) (hw : w < 18446744073709551616)
    (hfin : ∀ q : vw_C, q_cl[ci]? = some q → (q.2.1 k).2.2.2 = false ∨ ((q.2.1 k).2.2.2 = true ∧ M.1.name = "<init>" ∧ (q.2.1 k).1 = M.1.cls ∧ Cond.fieldLink M.1.cls idx (q.2.1 k).1 (q.2.1 k).2.1 (q.2.1 k).2.2.1 ∈ q_gd))
    (hx : ∀ ad v, q_vr E ad x v → q_fr (q_isr (q_ty ci k)) ad w v ∧ narrow (q_ty ci k) v = v ∧ fits (q_ty ci k) v = true)
    (kk : q_W E M Q (pc + 3) lo st ce sl (q_put h r (ci + 5, n, q_wr d k w))) : q_W E M Q pc lo (x :: .inr (.inl r) :: st) ce sl h := by
  intro p e R s m args below meth c A ad0 Z H locs ls stv C T Rt
  obtain ⟨ad, tys, ws, lv, h1, h2, h3, h4, h5⟩ := T
  match stv, h4 with
  | v :: v0 :: stv, ⟨ex, ⟨a0, e0, e1⟩, h4⟩ =>
    subst e1
    obtain ⟨q, f1, f2, f3⟩ := hf
    obtain ⟨a, fs, q', g1, g2, g3, g4, g5, g6⟩ := q_obj h5.1 hc
    rw [f1] at g3
    cases g3
    rw [g1] at e0
    cases e0
    obtain ⟨x1, x2, x3⟩ := hx ad v ex
    have kl : k < fs.length := by rw [g5, g4]; exact f2
    have kz : ∀ (H1 : Heap) (locs1 : List Loc), va_P E.2.1 q_cl (ws.set r (a0, .inr (ci, fs.set k v))) H1 → va_D A (ws.set r (a0, .inr (ci, fs.set k v))) → va_S A s.heap H1 locs1 → W p E.1 e R s m args below meth c H1 locs1 ce sl Z (F0 m (pc + 3) ls stv) := by
      intro H1 locs1 y1 y2 y3
      refine kk.go C ⟨ad, tys, _, lv, h1, h2, h3, h4, q_hr_set h5.1 hc g1 ?_, y1, y2, y3⟩ Rt
      refine Or.inr (Or.inr (Or.inr (Or.inr (Or.inr ⟨ci, fs.set k v, q, rfl, f1, g4, rfl, by rw [List.length_set]; exact g5, fun k' hk' => ?_⟩))))
      have hk' : k' < n := hk'
      show ∃ v', (fs.set k v)[k']? = some v' ∧ q_fr (q_isr (q_ty ci k')) ad (q_rd (q_wr d k w) k') v'
      rw [q_rd_wr hw, List.getElem?_set]
      by_cases e2 : k' = k
      · subst e2
        rw [if_pos rfl, if_pos rfl, if_pos kl]
        exact ⟨v, rfl, x1⟩
      · rw [if_neg e2, if_neg (fun z => e2 z.symm)]
        exact g6 k' hk'
    obtain ⟨c1, c2, c3⟩ := q_cw ci q f1
    rcases hfin q f1 with hfin | ⟨hfin, hini, hdecl, f4⟩
    · rcases f3 with f3 | ⟨host, f3⟩
      · exact va_put C.1.1 C.1.2 C.2.2.2.2.2.1 c1 (q_ty ci) c2 c3 C.2.2.2.2.1 h2 h5.2.1 h5.2.2.1 h5.2.2.2 r g2 f1 k f2 (C.2.2.2.2.2.1 _ f3) (fun _ z => z) hfin (c2 k f2) x2 x3 kl hd kz
      · exact va_putN C.1.1 C.1.2 C.2.2.2.2.2.1 c1 (q_ty ci) c2 c3 C.2.2.2.2.1 h2 h5.2.1 h5.2.2.1 h5.2.2.2 r g2 f1 k f2 (q_Cx_nst C f3) (fun _ z => z) hfin (c2 k f2) x2 x3 kl hd kz
    · exact va_putF C.1.1 C.1.2 C.2.2.2.2.2.1 c1 (q_ty ci) c2 c3 C.2.2.2.2.1 h2 h5.2.1 h5.2.2.1 h5.2.2.2 r g2 f1 k f2 (C.2.2.2.2.2.1 _ f4) (fun _ z => z) hfin (by rw [C.2.2.2.2.2.2.1]; exact hini) hdecl (c2 k f2) x2 x3 kl hd kz
end
