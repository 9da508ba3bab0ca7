/-! the pure part: instead: both sides alike -/
def pz_HP (formulas : Int32) (height : Nat → Int32) (z : pz_T6) : Prop := ∀ j : Nat, (j : Int) < formulas.toInt → z.2.2.2.2.2 j = height j
section PzHx
variable {formulas : Int32} {kind left right height : Nat → Int32} {x1 x2 x3 x4 x5 x6 : Int32}
theorem pz_hx122 (hc : pz_c formulas) : pz_HP formulas height (F_X4_make_122 formulas kind left right height x1 x2 x3 x4 x5 x6) := by
  unfold F_X4_make_122
  refine pz_it (P := pz_HP formulas height) (fun c => fun _ _ => rfl) (fun c => ?_)
  refine pz_it (P := pz_HP formulas height) (fun c2 => ?_) (fun _ => fun _ _ => rfl)
  have e := pz_tn hc.1
  intro j hj
  have n : j ≠ formulas.toNatClampNeg := by omega
  exact pk_un n
theorem pz_hx26 (hc : pz_c formulas) : ∀ (n : Nat) (x6 : Int32), pz_HP formulas height (F_X4_make_26 n formulas kind left right height x1 x2 x3 x4 x5 x6) := by
  intro n
  induction n with
  | zero => intro x6; exact fun _ _ => rfl
  | succ n ih =>
    intro x6
    unfold F_X4_make_26
    refine pz_it (P := pz_HP formulas height) (fun c => ?_) (fun c => ?_)
    · refine pz_it (P := pz_HP formulas height) (fun _ => ?_) (fun _ => pz_hx122 hc)
      exact pz_it (P := pz_HP formulas height) (fun _ => pz_hx122 hc) (fun _ => pz_hx122 hc)
    · have nx := ih (x6 + 1)
      refine pz_it (P := pz_HP formulas height) (fun _ => ?_) (fun _ => nx)
      refine pz_it (P := pz_HP formulas height) (fun _ => ?_) (fun _ => nx)
      refine pz_it (P := pz_HP formulas height) (fun _ => ?_) (fun _ => nx)
      exact fun _ _ => rfl
theorem pz_hxm (hc : pz_c formulas) : pz_HP formulas height (f_X4_make formulas kind left right height x1 x2 x3) := by
  unfold f_X4_make
  refine pz_it (P := pz_HP formulas height) (fun _ => ?_) (fun _ => ?_)
  · exact pz_it (P := pz_HP formulas height) (fun _ => pz_hx26 hc 81 0) (fun _ => pz_hx26 hc 81 0)
  · exact pz_it (P := pz_HP formulas height) (fun _ => pz_hx26 hc 81 0) (fun _ => pz_hx26 hc 81 0)
end PzHx
abbrev pz_TX8 : Type := Int32 × Int32 × (Nat → Int32) × (Nat → Int32) × (Nat → Int32) × (Nat → Int32) × (Nat → Int64) × (Nat → Int32)
abbrev pz_TM8 : Type := Int32 × Int32 × (Nat → Int32) × (Nat → Int32) × (Nat → Int32) × (Nat → Int32) × (Nat → Int32) × (Nat → Int32)
/-- what the one keeps of a turned formula, the other keeps -/
def pz_Lk (top x2 x3 : Int32) (kinds firsts replaced turned : Nat → Int32) : Prop := ∀ j : Nat, (j : Int) ≤ top.toInt → (2 ≤ kinds j → replaced j = turned j) ∧ (¬ 2 ≤ kinds j → turned j = if kinds j = 1 then (if firsts j = x2 then x3 else nI j) else nI j)
def pz_Ext (cnt : Int32) (kinds firsts seconds heights : Nat → Int32) (Z : pz_TX8) : Prop := cnt.toInt ≤ Z.2.1.toInt ∧ ∀ j : Nat, (j : Int) < cnt.toInt → Z.2.2.1 j = kinds j ∧ Z.2.2.2.1 j = firsts j ∧ Z.2.2.2.2.1 j = seconds j ∧ Z.2.2.2.2.2.1 j = heights j
def pz_RfZ (Z : pz_TX8) : Prop := pz_Rf Z.2.1 Z.2.2.1 Z.2.2.2.1 Z.2.2.2.2.1 Z.2.2.2.2.2.1 Z.2.2.2.2.2.2.1
def pz_GZ (top x2 x3 : Int32) (turned pile : Nat → Int32) (v x5 : Int32) (Z : pz_TX8) (G : pz_TM8) : Prop := pz_vf Z.2.1 Z.1 ∧ ∃ (N : Nat) (t p : Nat → Int32), G = F_X4_instead_110 N Z.2.1 Z.2.2.1 Z.2.2.2.1 Z.2.2.2.2.1 Z.2.2.2.2.2.1 t p top x2 x3 x5 ∧ pz_WI Z.2.1 Z.2.2.1 t p top x5 N ∧ pz_Lk top x2 x3 Z.2.2.1 Z.2.2.2.1 Z.2.2.2.2.2.2.2 t ∧ t v.toNatClampNeg = Z.1 ∧ (∀ j, ¬ turned j = -1 → t j = turned j) ∧ (∀ j : Nat, v.toInt < j → t j = turned j) ∧ (∀ j : Nat, (j : Int) < x5.toInt → p j = pile j)
/-- a formula turned by both: full, or the pile goes on without it -/
def pz_OC (top x2 x3 cnt : Int32) (kinds firsts seconds heights turned pile : Nat → Int32) (v x5 : Int32) (Z : pz_TX8) (G : pz_TM8) : Prop := (pz_Ext cnt kinds firsts seconds heights Z ∧ pz_RfZ Z) ∧ ((Z.1 = -4 ∧ ∃ t p, G = (-4, Z.2.1, Z.2.2.1, Z.2.2.2.1, Z.2.2.2.2.1, Z.2.2.2.2.2.1, t, p)) ∨ pz_GZ top x2 x3 turned pile v x5 Z G)
def pz_Pn (top x2 x3 : Int32) (n : Nat) : Prop := ∀ (cnt : Int32) (kinds firsts seconds heights : Nat → Int32) (tables : Nat → Int64) (replaced turned pile : Nat → Int32) (x4 d : Int32) (N : Nat), pz_Rf cnt kinds firsts seconds heights tables → pz_vf cnt top → pz_vf cnt x3 → pz_WI cnt kinds turned pile top x4 N → pz_Lk top x2 x3 kinds firsts replaced turned → ¬ x4 ≤ 0 → turned (pile (x4 - 1).toNatClampNeg).toNatClampNeg = -1 → (heights (pile (x4 - 1).toNatClampNeg).toNatClampNeg).toInt ≤ n → d.toInt + n = 13 → 1 ≤ d.toInt → pz_OC top x2 x3 cnt kinds firsts seconds heights turned pile (pile (x4 - 1).toNatClampNeg) (x4 + (-1)) (f_X1_replaceIn n cnt kinds firsts seconds heights tables replaced (pile (x4 - 1).toNatClampNeg) x2 x3 d) (F_X4_instead_110 N cnt kinds firsts seconds heights turned pile top x2 x3 x4)
theorem pz_pp {x : Int32} : x + 1 + (-1) = x := by rw [Int32.add_assoc]; exact Int32.add_zero x
theorem pz_pm {x : Int32} : x + 1 - 1 = x := by rw [Int32.sub_eq_add_neg]; exact pz_pp
theorem pz_k2 {k : Int32} (h : 0 ≤ k.toInt) (a : ¬ k = 0) (b : ¬ k = 1) : 2 ≤ k := by
  have p := pz_ne a
  have q := pz_ne b
  have e2 : (2 : Int32).toInt = 2 := rfl
  have e1 : (1 : Int32).toInt = 1 := rfl
  rw [pz_zero] at p
  rw [Int32.le_iff_toInt_le]; omega
theorem pz_k01 {k : Int32} (h : 2 ≤ k) : ¬ k = 0 ∧ ¬ k = 1 := ⟨fun q => by rw [q] at h; exact absurd h (by decide), fun q => by rw [q] at h; exact absurd h (by decide)⟩
theorem pz_vn1 {c x : Int32} (h : pz_vf c x) : ¬ x = -1 ∧ ¬ x = -4 := by
  refine ⟨fun q => ?_, fun q => ?_⟩
  · have := h.1
    rw [q, pz_m1] at this
    omega
  · have := h.1
    have e4 : (-4 : Int32).toInt = -4 := rfl
    rw [q, e4] at this
    omega
theorem pz_jl {j : Nat} {a b : Int} (h : (j : Int) < b) (e : b = a - 1) : (j : Int) < a := by omega
theorem pz_d12 {d : Int32} (h : d.toInt ≤ 12) : ¬ 12 < d := fun q => by
  have := pz_lt q
  have e12 : (12 : Int32).toInt = 12 := rfl
  omega
section PzRi
variable {cnt top x2 x3 : Int32} {kinds firsts seconds heights : Nat → Int32} {tables : Nat → Int64} {replaced turned pile : Nat → Int32} {v d x4 y : Int32} {n N : Nat}
/-- a formula that is turned already -/
theorem pz_ri0 (hL : pz_Lk top x2 x3 kinds firsts replaced turned) (vv : pz_vf cnt v) (vt : v.toInt ≤ top.toInt) (hd : d.toInt ≤ 12) (c : ¬ turned v.toNatClampNeg = -1) : f_X1_replaceIn (n + 1) cnt kinds firsts seconds heights tables replaced v x2 x3 d = (turned v.toNatClampNeg, cnt, kinds, firsts, seconds, heights, tables, replaced) := by
  have ev := pz_tn vv.1
  have lk := hL v.toNatClampNeg (by omega)
  unfold f_X1_replaceIn
  rw [if_neg (pz_d12 hd), pz_be rfl, pz_vhas vv, if_neg pz_o1]
  by_cases k2 : 2 ≤ kinds v.toNatClampNeg
  · have e := lk.1 k2
    rw [if_pos k2, e, if_neg c]
  · have e := lk.2 k2
    rw [← pz_nI vv.1] at e
    rw [if_neg k2, e]
    by_cases k1 : kinds v.toNatClampNeg = 1
    · rw [if_pos k1, if_pos k1]
      by_cases k3 : firsts v.toNatClampNeg = x2
      · rw [if_pos k3, if_pos k3]
      · rw [if_neg k3, if_neg k3]
    · rw [if_neg k1, if_neg k1]
/-- a part of the pile's top -/
theorem pz_Qn (ih : pz_Pn top x2 x3 n) (hR : pz_Rf cnt kinds firsts seconds heights tables) (hv : pz_vf cnt top) (h3 : pz_vf cnt x3) (hW : pz_WI cnt kinds turned pile top x4 (N + 1)) (hL : pz_Lk top x2 x3 kinds firsts replaced turned) (hp : ¬ x4 ≤ 0) (ht : turned (pile (x4 - 1).toNatClampNeg).toNatClampNeg = -1) (h0 : 0 ≤ v.toInt) (hlt : v.toInt < (pile (x4 - 1).toNatClampNeg).toInt) (hh : (heights v.toNatClampNeg).toInt ≤ n) (hd : d.toInt + n = 13) (hd1 : 1 ≤ d.toInt) (hs : turned v.toNatClampNeg = -1 → F_X4_instead_110 (N + 1) cnt kinds firsts seconds heights turned pile top x2 x3 x4 = F_X4_instead_110 N cnt kinds firsts seconds heights turned (upd pile x4.toNatClampNeg v) top x2 x3 (x4 + 1)) :
    pz_OC top x2 x3 cnt kinds firsts seconds heights turned pile v x4 (f_X1_replaceIn n cnt kinds firsts seconds heights tables replaced v x2 x3 d) (F_X4_instead_110 (N + 1) cnt kinds firsts seconds heights turned pile top x2 x3 x4) := by
  obtain ⟨⟨p1, p2, p3, p4⟩, p5, p6⟩ := pz_Wtop hv hR.1.1 hW hp
  have vt : v.toInt < top.toInt := by omega
  have vv : pz_vf cnt v := ⟨h0, by have := hv.2; omega⟩
  have ev := pz_tn h0
  have e4 := pz_tn (x := x4) (by omega)
  have i4 := pz_inc (x := x4) (by omega)
  by_cases c : turned v.toNatClampNeg = -1
  · rw [hs c]
    have wb := pz_Wb hW hv hR.1.1 hp ht h0 hlt c
    have ev4 : upd pile x4.toNatClampNeg v (x4 + 1 - 1).toNatClampNeg = v := by rw [pz_pm, pk_us]
    have hp1 : ¬ x4 + 1 ≤ 0 := fun q => by have := pz_le q; rw [pz_zero] at this; omega
    have q := ih cnt kinds firsts seconds heights tables replaced turned (upd pile x4.toNatClampNeg v) (x4 + 1) d N hR hv h3 wb hL hp1 (by rw [ev4]; exact c) (by rw [ev4]; exact hh) hd hd1
    rw [ev4, pz_pp] at q
    refine ⟨q.1, q.2.elim Or.inl (fun g => Or.inr ?_)⟩
    obtain ⟨g1, N2, t, p, g2, g3, g4, g5, g6, g7, g8⟩ := g
    exact ⟨g1, N2, t, p, g2, g3, g4, g5, g6, g7, fun j hj => by rw [g8 j hj, pk_un (by omega)]⟩
  · have hge := (hR.2 v.toNatClampNeg (by have := vv.2; omega)).2.2.2.1.1
    obtain ⟨n2, rfl⟩ : ∃ n2, n = n2 + 1 := ⟨n - 1, by omega⟩
    rw [pz_ri0 hL vv (by omega) (by omega) c]
    exact ⟨⟨⟨Int.le_refl _, fun _ _ => ⟨rfl, rfl, rfl, rfl⟩⟩, hR⟩, Or.inr ⟨pz_Wt hW h0 (by omega) c, N + 1, turned, pile, rfl, hW, hL, rfl, fun _ _ => rfl, fun _ _ => rfl, fun _ _ => rfl⟩⟩
end PzRi
section PzRj
variable {top x2 x3 : Int32}
theorem pz_P : ∀ n, pz_Pn top x2 x3 n := by
  intro n
  induction n with
  | zero =>
    intro cnt kinds firsts seconds heights tables replaced turned pile x4 d N hR hv h3 hW hL hp ht hh
    obtain ⟨⟨p1, p2, p3, p4⟩, p5, p6⟩ := pz_Wtop hv hR.1.1 hW hp
    have ey := pz_tn p5
    have := (hR.2 (pile (x4 - 1).toNatClampNeg).toNatClampNeg (by have := hv.2; omega)).2.2.2.1.1
    exact absurd hh (by omega)
  | succ n ih =>
    intro cnt kinds firsts seconds heights tables replaced turned pile x4 d N hR hv h3 hW hL hp ht hh hd hd1
    have w := pz_Wtop hv hR.1.1 hW hp
    have wg := pz_Wg hR.1 hW hv hp ht
    obtain ⟨N1, rfl⟩ : ∃ N1, N = N1 + 1 := ⟨N - 1, by have := hW.1.2; omega⟩
    obtain ⟨y, hy⟩ : ∃ y, pile (x4 - 1).toNatClampNeg = y := ⟨_, rfl⟩
    rw [hy] at ht hh w wg ⊢
    obtain ⟨⟨p1, p2, p3, p4⟩, p5, p6⟩ := w
    obtain ⟨⟨l1, l2⟩, ⟨r1, r2⟩, k0, k1⟩ := wg
    have ey := pz_tn p5
    have yv : pz_vf cnt y := ⟨p5, by have := hv.2; omega⟩
    have yn : (y.toNatClampNeg : Int) < cnt.toInt := by have := yv.2; omega
    have Ry := hR.2 y.toNatClampNeg yn
    have k2 : 2 ≤ kinds y.toNatClampNeg := pz_k2 Ry.1.1 k0 k1
    have ry : replaced y.toNatClampNeg = -1 := by rw [(hL y.toNatClampNeg (by omega)).1 k2, ht]
    have hl := Ry.2.2.2.2 k0 k1
    have d1 := pz_inc (x := d) (by omega)
    have q1 := pz_Qn ih (tables := tables) (replaced := replaced) (d := d + 1) (v := firsts y.toNatClampNeg) hR hv h3 hW hL hp (by rw [hy]; exact ht) l1 (by rw [hy]; exact l2) (by omega) (by omega) (by omega) (fun c => by rw [F_X4_instead_110, if_neg hp, hy, if_pos ht, if_pos c])
    unfold f_X1_replaceIn
    rw [if_neg (pz_d12 (d := d) (by omega)), pz_be rfl, pz_vhas yv, if_neg pz_o1, if_pos k2, if_pos ry, pz_be rfl]
    generalize f_X1_replaceIn n cnt kinds firsts seconds heights tables replaced (firsts y.toNatClampNeg) x2 x3 (d + 1) = Z9 at q1 ⊢
    obtain ⟨⟨a1, rf1⟩, q1⟩ := q1
    rcases q1 with ⟨z, t, p, g⟩ | g
    · rw [if_pos z]; exact ⟨⟨a1, rf1⟩, Or.inl ⟨rfl, t, p, g⟩⟩
    obtain ⟨v9, N2, t1, b1, g2, g3, g4, g5, g6, g7, g8⟩ := g
    rw [if_neg (pz_vn1 v9).2, pz_be rfl, g2]
    have y1 : b1 (x4 - 1).toNatClampNeg = y := by rw [g8 _ (by omega)]; exact hy
    have ty1 : t1 y.toNatClampNeg = -1 := by rw [g7 _ (by omega)]; exact ht
    have A9 := a1.2 y.toNatClampNeg yn
    have hv9 := pz_vfm a1.1 hv
    have wg9 := pz_Wg rf1.1 g3 hv9 hp (by rw [y1]; exact ty1)
    rw [y1] at wg9
    obtain ⟨⟨l1', l2'⟩, ⟨r1', r2'⟩, k09, k19⟩ := wg9
    have tl : ¬ t1 (Z9.2.2.2.1 y.toNatClampNeg).toNatClampNeg = -1 := by rw [A9.2.1, g5]; exact (pz_vn1 v9).1
    obtain ⟨N3, rfl⟩ : ∃ N3, N2 = N3 + 1 := ⟨N2 - 1, by have := g3.1.2; omega⟩
    have yn9 : (y.toNatClampNeg : Int) < Z9.2.1.toInt := by have := a1.1; omega
    have hl9 := (rf1.2 y.toNatClampNeg yn9).2.2.2.2 k09 k19
    rw [A9.2.2.2] at hl9
    have q2 := pz_Qn ih (tables := Z9.2.2.2.2.2.2.1) (replaced := Z9.2.2.2.2.2.2.2) (d := d + 1) (v := Z9.2.2.2.2.1 y.toNatClampNeg) rf1 hv9 (pz_vfm a1.1 h3) g3 g4 hp (by rw [y1]; exact ty1) r1' (by rw [y1]; exact r2') (by omega) (by omega) (by omega) (fun c => by rw [F_X4_instead_110, if_neg hp, y1, if_pos ty1, if_neg tl, if_pos c])
    generalize f_X1_replaceIn n Z9.2.1 Z9.2.2.1 Z9.2.2.2.1 Z9.2.2.2.2.1 Z9.2.2.2.2.2.1 Z9.2.2.2.2.2.2.1 Z9.2.2.2.2.2.2.2 (Z9.2.2.2.2.1 y.toNatClampNeg) x2 x3 (d + 1) = Z2 at q2 ⊢
    obtain ⟨⟨a2, rf2⟩, q2⟩ := q2
    have aa : pz_Ext cnt kinds firsts seconds heights Z2 := ⟨Int.le_trans a1.1 a2.1, fun j hj => by
      have u := a1.2 j hj
      have w := a2.2 j (by have := a1.1; omega)
      exact ⟨w.1.trans u.1, w.2.1.trans u.2.1, w.2.2.1.trans u.2.2.1, w.2.2.2.trans u.2.2.2⟩⟩
    rcases q2 with ⟨z, t, p, g⟩ | g
    · rw [if_pos z]; exact ⟨⟨aa, rf2⟩, Or.inl ⟨rfl, t, p, g⟩⟩
    obtain ⟨v2, N4, t2, b2, f2, f3, f4, f5, f6, f7, f8⟩ := g
    rw [if_neg (pz_vn1 v2).2, pz_be rfl, f2]
    have y2 : b2 (x4 - 1).toNatClampNeg = y := by rw [f8 _ (by omega)]; exact y1
    have ty2 : t2 y.toNatClampNeg = -1 := by rw [f7 _ (by omega)]; exact ty1
    have A2 := aa.2 y.toNatClampNeg yn
    have B2 := a2.2 y.toNatClampNeg yn9
    have hv2 := pz_vfm a2.1 hv9
    have tl2 : t2 (Z2.2.2.2.1 y.toNatClampNeg).toNatClampNeg = Z9.1 := by rw [B2.2.1, f6 _ tl, A9.2.1]; exact g5
    have tr2 : t2 (Z2.2.2.2.2.1 y.toNatClampNeg).toNatClampNeg = Z2.1 := by rw [B2.2.2.1]; exact f5
    obtain ⟨N5, rfl⟩ : ∃ N5, N4 = N5 + 1 := ⟨N4 - 1, by have := f3.1.2; omega⟩
    have yn2 : (y.toNatClampNeg : Int) < Z2.2.1.toInt := by have := aa.1; omega
    have K2 : 2 ≤ Z2.2.2.1 y.toNatClampNeg := by rw [A2.1]; exact k2
    have R2 := rf2.2 y.toNatClampNeg yn2
    have v92 := pz_vfm a2.1 v9
    obtain ⟨M, hM⟩ : ∃ M : pz_T6, M = f_X4_make Z2.2.1 Z2.2.2.1 Z2.2.2.2.1 Z2.2.2.2.2.1 Z2.2.2.2.2.2.1 (Z2.2.2.1 y.toNatClampNeg) Z9.1 Z2.1 := ⟨_, rfl⟩
    obtain ⟨T, m1, m2⟩ := pz_mkeq rf2 R2.1 (fun _ => ⟨v92, v2⟩) (fun q => absurd q (pz_k01 K2).2) (xa := Z9.1) (xb := Z2.1) (by rw [if_neg (pz_k01 K2).1]) (by rw [if_pos K2]) hM
    have mk := pz_mk (height := Z2.2.2.2.2.2.1) rf2.1 (fun _ => ⟨v92, v2⟩) R2.1.1
    have kp := pz_kp (left := Z2.2.2.2.1) (right := Z2.2.2.2.2.1) (height := Z2.2.2.2.2.2.1) (x2 := Z9.1) (x3 := Z2.1) rf2.1.1 rf2.kn R2.1.1
    have hp9 := pz_hxm (kind := Z2.2.2.1) (left := Z2.2.2.2.1) (right := Z2.2.2.2.2.1) (height := Z2.2.2.2.2.2.1) (x1 := Z2.2.2.1 y.toNatClampNeg) (x2 := Z9.1) (x3 := Z2.1) rf2.1.1
    rw [← hM] at mk kp hp9
    rw [m1, pk_us, F_X4_instead_110, if_neg hp, y2, if_pos ty2, tl2, tr2, if_neg (pz_vn1 v9).1, if_neg (pz_vn1 v2).1, pz_be rfl, ← hM]
    have am : pz_Ext cnt kinds firsts seconds heights (M.1, M.2.1, M.2.2.1, M.2.2.2.1, M.2.2.2.2.1, M.2.2.2.2.2, T, upd Z2.2.2.2.2.2.2.2 y.toNatClampNeg M.1) := ⟨Int.le_trans aa.1 mk.2.1, fun j hj => by
      have u := aa.2 j hj
      have w := kp.1 j (by have := aa.1; omega)
      have w2 := hp9 j (by have := aa.1; omega)
      exact ⟨w.1.trans u.1, w.2.1.trans u.2.1, w.2.2.trans u.2.2.1, w2.trans u.2.2.2⟩⟩
    by_cases c4 : M.1 = -4
    · rw [if_pos c4]
      exact ⟨⟨am, m2⟩, Or.inl ⟨c4, _, _, rfl⟩⟩
    · rw [if_neg c4]
      have mv : pz_vf M.2.1 M.1 := mk.2.2.elim (fun q => absurd q c4) id
      have wd := pz_Wd f3 hv2 rf2.1.1 hp (by rw [y2]; exact ty2) mk.2.1 (fun j hj => (kp.1 j hj).1) mv
      rw [y2] at wd
      have hd4 := pz_dec (x := x4) (by omega)
      show pz_OC top x2 x3 cnt kinds firsts seconds heights turned pile y (x4 + (-1)) (M.1, M.2.1, M.2.2.1, M.2.2.2.1, M.2.2.2.2.1, M.2.2.2.2.2, T, upd Z2.2.2.2.2.2.2.2 y.toNatClampNeg M.1) _
      refine ⟨⟨am, m2⟩, Or.inr ⟨mv, N5, upd t2 y.toNatClampNeg M.1, b2, rfl, wd, fun j hj => ?_, pk_us, fun j hj => ?_, fun j hj => ?_, fun j hj => ?_⟩⟩
      · have w := kp.1 j (by have := hv2.2; omega)
        have L := f4 j hj
        refine ⟨fun q => ?_, fun q => ?_⟩
        · show upd Z2.2.2.2.2.2.2.2 y.toNatClampNeg M.1 j = upd t2 y.toNatClampNeg M.1 j
          by_cases cj : j = y.toNatClampNeg
          · rw [cj, pk_us, pk_us]
          · rw [pk_un cj, pk_un cj]
            exact L.1 (by rw [← w.1]; exact q)
        · have cj : j ≠ y.toNatClampNeg := fun e => by
            rw [e] at q w
            exact q (by show 2 ≤ M.2.2.1 y.toNatClampNeg; rw [w.1]; exact K2)
          rw [pk_un cj]
          show t2 j = if M.2.2.1 j = 1 then (if M.2.2.2.1 j = x2 then x3 else nI j) else nI j
          rw [w.1, w.2.1]
          exact L.2 (by rw [← w.1]; exact q)
      · have cj : j ≠ y.toNatClampNeg := fun e => hj (by rw [e]; exact ht)
        rw [pk_un cj]
        have e1 := g6 j hj
        rw [f6 j (by rw [e1]; exact hj), e1]
      · have cj : j ≠ y.toNatClampNeg := by omega
        rw [pk_un cj, f7 j (by omega), g7 j (by omega)]
      · rw [f8 j (pz_jl hj hd4), g8 j (pz_jl hj hd4)]
/-- the first walk: what no turning changes -/
theorem pz_i34 {cnt : Int32} {kinds firsts seconds heights pile : Nat → Int32} {tables : Nat → Int64} (hR : pz_Rf cnt kinds firsts seconds heights tables) (hv : pz_vf cnt top) (h3 : pz_vf cnt x3) : ∀ (n : Nat) (turned : Nat → Int32) (x4 : Int32), 0 ≤ x4.toInt → x4.toInt ≤ top.toInt + 1 → top.toInt + 2 ≤ x4.toInt + n → (∀ j : Nat, (j : Int) < x4.toInt → (2 ≤ kinds j → turned j = -1) ∧ (¬ 2 ≤ kinds j → turned j = if kinds j = 1 then (if firsts j = x2 then x3 else nI j) else nI j)) → ∃ t, F_X4_instead_34 n cnt kinds firsts seconds heights turned pile top x2 x3 x4 = F_X4_instead_110 16200 cnt kinds firsts seconds heights t (upd pile (0 : Int32).toNatClampNeg top) top x2 x3 1 ∧ ∀ j : Nat, (j : Int) ≤ top.toInt → (2 ≤ kinds j → t j = -1) ∧ (¬ 2 ≤ kinds j → t j = if kinds j = 1 then (if firsts j = x2 then x3 else nI j) else nI j) := by
  intro n
  induction n with
  | zero => intro turned x4 h0 h1 hn; exact absurd hn (by omega)
  | succ n ih =>
    intro turned x4 h0 h1 hn h
    unfold F_X4_instead_34
    have tb := hv.2
    have cb := hR.1.1.2
    by_cases c : top < x4
    · rw [if_pos c]
      have := pz_lt c
      exact ⟨turned, rfl, fun j hj => h j (by omega)⟩
    · rw [if_neg c]
      have cl := pz_nlt c
      have i := pz_inc (x := x4) (by omega)
      have e := pz_tn h0
      have Rx := hR.2 x4.toNatClampNeg (by omega)
      have nx := pz_nI h0
      have go : ∀ w : Int32, ((2 ≤ kinds x4.toNatClampNeg → w = -1) ∧ (¬ 2 ≤ kinds x4.toNatClampNeg → w = if kinds x4.toNatClampNeg = 1 then (if firsts x4.toNatClampNeg = x2 then x3 else nI x4.toNatClampNeg) else nI x4.toNatClampNeg)) → ∃ t, F_X4_instead_34 n cnt kinds firsts seconds heights (upd turned x4.toNatClampNeg w) pile top x2 x3 (x4 + 1) = F_X4_instead_110 16200 cnt kinds firsts seconds heights t (upd pile (0 : Int32).toNatClampNeg top) top x2 x3 1 ∧ ∀ j : Nat, (j : Int) ≤ top.toInt → (2 ≤ kinds j → t j = -1) ∧ (¬ 2 ≤ kinds j → t j = if kinds j = 1 then (if firsts j = x2 then x3 else nI j) else nI j) := by
        intro w hw
        refine ih (upd turned x4.toNatClampNeg w) (x4 + 1) (by omega) (by omega) (by omega) (fun j hj => ?_)
        by_cases cj : j = x4.toNatClampNeg
        · rw [cj, pk_us]; exact hw
        · rw [pk_un cj]; exact h j (by omega)
      by_cases k0 : kinds x4.toNatClampNeg = 0
      · rw [if_pos k0]
        refine go x4 ⟨fun q => absurd k0 (pz_k01 q).1, fun _ => ?_⟩
        rw [if_neg (by rw [k0]; decide)]; exact nx
      · rw [if_neg k0]
        by_cases k1 : kinds x4.toNatClampNeg = 1
        · rw [if_pos k1]
          by_cases k3 : firsts x4.toNatClampNeg = x2
          · rw [if_pos k3]
            refine go x3 ⟨fun q => absurd k1 (pz_k01 q).2, fun _ => ?_⟩
            rw [if_pos k1, if_pos k3]
          · rw [if_neg k3]
            refine go x4 ⟨fun q => absurd k1 (pz_k01 q).2, fun _ => ?_⟩
            rw [if_pos k1, if_neg k3]; exact nx
        · rw [if_neg k1]
          exact go (-1) ⟨fun _ => rfl, fun q => absurd (pz_k2 Rx.1.1 k0 k1) q⟩
theorem pz_fl : ∀ (n : Nat) (replaced : Nat → Int32) (x : Int32), 0 ≤ x.toInt → x.toInt ≤ 80 → 81 ≤ x.toInt + n → (∀ j : Nat, (j : Int) < x.toInt → replaced j = -1) → ∀ j : Nat, j < 80 → F_J7_fill_53178_5 n replaced (-1) x 80 j = -1 := by
  intro n
  induction n with
  | zero => intro F x h0 h1 hn; exact absurd hn (by omega)
  | succ n ih =>
    intro F x h0 h1 hn h
    unfold F_J7_fill_53178_5
    have e80 : (80 : Int32).toInt = 80 := rfl
    by_cases c : (80 : Int32) ≤ x
    · rw [if_pos c]
      have := pz_le c
      exact fun j hj => h j (by omega)
    · rw [if_neg c]
      have := pz_nle c
      have i := pz_inc (x := x) (by omega)
      have e := pz_tn h0
      refine ih _ (x + 1) (by omega) (by omega) (by omega) (fun j hj => ?_)
      by_cases cj : j = x.toNatClampNeg
      · rw [cj, pk_us]
      · rw [pk_un cj]; exact h j (by omega)
end PzRj
