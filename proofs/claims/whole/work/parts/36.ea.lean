/-! the pure part: check: what a line that is kept changes -/
theorem pz_topc {b : Int32} {P Q : Nat → Prop} (e : ∀ a, P a ↔ Q a) (h : pz_top b P) : pz_top b Q := by
  rcases h with ⟨a, n⟩ | ⟨m, hm, a, p, mx⟩
  · exact Or.inl ⟨a, fun x q => n x ((e x).mpr q)⟩
  · exact Or.inr ⟨m, hm, a, (e m).mp p, fun x q => mx x ((e x).mpr q)⟩
section PzKp
variable {K : Nat} {frules heads ends inforce usable rt hm boxOf shutBy around : Nat → Int32} {inner x1 r f : Int32}
/-- the boxes that a new line lies in are the open ones -/
theorem pz_Ek (h : pz_B K frules heads ends inforce usable rt hm boxOf shutBy around inner) (hk : K < 60) (a : Nat) : pz_E rt shutBy K a ↔ (a < 60 ∧ rt a = 1 ∧ shutBy a = -1) := by
  constructor
  · intro e
    have a60 : a < 60 := by have := e.2.1; omega
    refine ⟨a60, e.1, ?_⟩
    rcases e.2.2 with q | q
    · exact q
    · rcases (h.2.2.2.1 a a60 e.1).2.1 with z | z
      · exact z
      · exact absurd q (by omega)
  · intro e
    have := (h.2.2.2.1 a e.1 e.2.1).1
    exact ⟨e.2.1, by omega, Or.inl e.2.2⟩
theorem pz_rtk (h : pz_B K frules heads ends inforce usable rt hm boxOf shutBy around inner) (hk : K < 60) : ¬ rt K = 1 := fun q => by
  have := (h.2.2.2.1 K hk q).1
  omega
theorem pz_rt1 (hn : ¬ rt K = 1) (hr : ¬ r = 1) (a : Nat) : upd rt K r a = 1 ↔ rt a = 1 := by
  by_cases c : a = K
  · rw [c, pk_us]; exact ⟨fun q => absurd q hr, fun q => absurd q hn⟩
  · rw [pk_un c]
theorem pz_Eo (hn : ¬ rt K = 1) (hr : ¬ r = 1) (i a : Nat) : pz_E (upd rt K r) shutBy i a ↔ pz_E rt shutBy i a := by
  unfold pz_E
  rw [pz_rt1 hn hr]
theorem pz_Bsi (h : pz_B K frules heads ends inforce usable rt hm boxOf shutBy around inner) {j : Nat} (hj : j < 60) (h1 : rt j = 1) (hs : ¬ shutBy j = -1) : ((shutBy j - 1).toNatClampNeg : Int) = (shutBy j).toInt - 1 ∧ (j : Int) < (shutBy j).toInt ∧ (shutBy j).toInt < K := by
  rcases (h.2.2.2.1 j hj h1).2.1 with q | q
  · exact absurd q hs
  · have s := pz_sub1 (f := shutBy j) (by omega)
    have t := pz_tn (x := shutBy j - 1) (by omega)
    exact ⟨by omega, q⟩
/-- FULL: the rule is noted, and nothing else -/
theorem pz_Bfull (h : pz_B K frules heads ends inforce usable rt hm boxOf shutBy around inner) (hk : K < 60) (hr : ¬ r = 1) : pz_B K frules heads ends inforce usable (upd rt K r) hm boxOf shutBy around inner := by
  have hn := pz_rtk h hk
  have hB := h
  obtain ⟨h1, h2, h3, h4, h5, h6, h7, h8, h9, h10⟩ := h
  refine ⟨h1, fun j hj => ?_, h3, fun a ha q => h4 a ha ((pz_rt1 hn hr a).mp q), fun a b hab hb q e s => h5 a b hab hb ((pz_rt1 hn hr b).mp q) ((pz_Eo hn hr b a).mp e) s, fun i hi => pz_topc (fun a => (pz_Eo hn hr i a).symm) (h6 i hi), fun b hb q => pz_topc (fun a => and_congr Iff.rfl (pz_Eo hn hr b a).symm) (h7 b hb ((pz_rt1 hn hr b).mp q)), pz_topc (fun a => and_congr Iff.rfl (and_congr (pz_rt1 hn hr a).symm Iff.rfl)) h8, fun j hj => ?_, fun j hj => ?_⟩
  · rw [pk_un (by omega : j ≠ K)]; exact h2 j hj
  · rw [h9 j hj]
    exact and_congr Iff.rfl (forall_congr' fun a => by rw [pz_Eo hn hr])
  · rw [h10 j hj, pz_rt1 hn hr]
    constructor
    · rintro ⟨a, b, d, e⟩
      have s := pz_Bsi hB (by omega : j < 60) a b
      exact ⟨a, b, fun i hi z => d i hi ((pz_Eo hn hr j i).mp z), by rw [pk_un (by omega)]; exact e⟩
    · rintro ⟨a, b, d, e⟩
      have s := pz_Bsi hB (by omega : j < 60) a b
      rw [pk_un (by omega)] at e
      exact ⟨a, b, fun i hi z => d i hi ((pz_Eo hn hr j i).mpr z), e⟩
/-- any line but ASSUME and SHUT -/
theorem pz_Bo (h : pz_B K frules heads ends inforce usable rt hm boxOf shutBy around inner) (hk : K < 60) (hr1 : ¬ r = 1) (hr2 : ¬ r = 2) (hf : ¬ f = -1) : pz_B (K + 1) (upd frules K r) (upd heads K f) ends (upd inforce K 1) usable (upd rt K r) (upd hm K f) (upd boxOf K inner) shutBy around inner := by
  have hn := pz_rtk h hk
  have hB := h
  obtain ⟨h1, h2, h3, h4, h5, h6, h7, h8, h9, h10⟩ := h
  have k3 := h3 K (Nat.le_refl _) hk
  refine ⟨⟨by omega, fun j hj => ?_⟩, fun j hj => ?_, fun j hj hj2 => ?_, fun a ha q => ?_, fun a b hab hb q e s => h5 a b hab hb ((pz_rt1 hn hr1 b).mp q) ((pz_Eo hn hr1 b a).mp e) s, fun i hi => ?_, fun b hb q => pz_topc (fun a => and_congr Iff.rfl (pz_Eo hn hr1 b a).symm) (h7 b hb ((pz_rt1 hn hr1 b).mp q)), pz_topc (fun a => and_congr Iff.rfl (and_congr (pz_rt1 hn hr1 a).symm Iff.rfl)) h8, fun j hj => ?_, fun j hj => ?_⟩
  · by_cases c : j = K
    · rw [c, pk_us, pk_us]
    · rw [pk_un c, pk_un c]; exact h1.2 j hj
  · by_cases c : j = K
    · rw [c, pk_us, pk_us, pk_us]
      exact ⟨rfl, ⟨fun q => absurd q hf, fun q => absurd q hr2⟩, fun _ => k3.2.2.1⟩
    · rw [pk_un c, pk_un c, pk_un c]; exact h2 j (by omega)
  · have c : j ≠ K := by omega
    rw [pk_un c, pk_un c, pk_un c]; exact h3 j (by omega) hj2
  · have z := h4 a ha ((pz_rt1 hn hr1 a).mp q)
    refine ⟨by omega, ?_, z.2.2⟩
    rcases z.2.1 with y | y
    · exact Or.inl y
    · right; omega
  · by_cases c : i = K
    · rw [c, pk_us]
      exact pz_topc (fun a => (pz_Ek hB hk a).symm.trans (pz_Eo hn hr1 K a).symm) h8
    · rw [pk_un c]
      exact pz_topc (fun a => (pz_Eo hn hr1 i a).symm) (h6 i (by omega))
  · by_cases c : j = K
    · rw [c, pk_us, pk_us]
      exact ⟨fun _ => ⟨hf, fun a e => ((pz_Ek hB hk a).mp ((pz_Eo hn hr1 K a).mp e)).2.2⟩, fun _ => by decide⟩
    · rw [pk_un c, pk_un c, h9 j (by omega)]
      exact and_congr Iff.rfl (forall_congr' fun a => by rw [pz_Eo hn hr1])
  · rw [pz_rt1 hn hr1]
    by_cases c : j = K
    · rw [c, k3.2.2.2.2]
      exact ⟨fun q => absurd rfl q, fun q => absurd q.1 hn⟩
    · rw [h10 j (by omega)]
      constructor
      · rintro ⟨a, b, d, e⟩
        have s := pz_Bsi hB (by omega : j < 60) a b
        exact ⟨a, b, fun i hi z => d i hi ((pz_Eo hn hr1 j i).mp z), by rw [pk_un (by omega)]; exact e⟩
      · rintro ⟨a, b, d, e⟩
        have s := pz_Bsi hB (by omega : j < 60) a b
        rw [pk_un (by omega)] at e
        exact ⟨a, b, fun i hi z => d i hi ((pz_Eo hn hr1 j i).mpr z), e⟩
/-- ASSUME -/
theorem pz_Ba (h : pz_B K frules heads ends inforce usable rt hm boxOf shutBy around inner) (hk : K < 60) (hx : x1 = nI K) (hf : ¬ f = -1) : pz_B (K + 1) (upd frules K 1) (upd heads K f) ends (upd inforce K 1) usable (upd rt K 1) (upd hm K f) (upd boxOf K x1) (upd shutBy K (-1)) (upd around K inner) x1 := by
  have hn := pz_rtk h hk
  have hB := h
  obtain ⟨h1, h2, h3, h4, h5, h6, h7, h8, h9, h10⟩ := h
  have k3 := h3 K (Nat.le_refl _) hk
  have El : ∀ i a, i < K → (pz_E (upd rt K 1) (upd shutBy K (-1)) i a ↔ pz_E rt shutBy i a) := by
    intro i a hi
    unfold pz_E
    by_cases c : a = K
    · exact ⟨fun q => absurd q.2.1 (by omega), fun q => absurd q.2.1 (by omega)⟩
    · rw [pk_un c, pk_un c]
  have Ek : ∀ a, pz_E (upd rt K 1) (upd shutBy K (-1)) K a ↔ (a = K ∨ (a < K ∧ pz_E rt shutBy K a)) := by
    intro a
    unfold pz_E
    by_cases c : a = K
    · rw [c, pk_us, pk_us]
      exact ⟨fun _ => Or.inl rfl, fun _ => ⟨rfl, Nat.le_refl _, Or.inl rfl⟩⟩
    · rw [pk_un c, pk_un c]
      constructor
      · intro q; exact Or.inr ⟨by have := q.2.1; omega, q⟩
      · rintro (q | q)
        · exact absurd q c
        · exact q.2
  have rk : ∀ a, a < 60 → upd rt K 1 a = 1 → ¬ a = K → rt a = 1 ∧ a < K := fun a ha q c => by
    rw [pk_un c] at q
    exact ⟨q, (h4 a ha q).1⟩
  refine ⟨⟨by omega, fun j hj => ?_⟩, fun j hj => ?_, fun j hj hj2 => ?_, fun a ha q => ?_, fun a b hab hb q e s => ?_, fun i hi => ?_, fun b hb q => ?_, ?_, fun j hj => ?_, fun j hj => ?_⟩
  · by_cases c : j = K
    · rw [c, pk_us, pk_us]
    · rw [pk_un c, pk_un c]; exact h1.2 j hj
  · by_cases c : j = K
    · rw [c, pk_us, pk_us, pk_us]
      exact ⟨rfl, ⟨fun q => absurd q hf, fun q => absurd q (by decide)⟩, fun q => absurd rfl q⟩
    · rw [pk_un c, pk_un c, pk_un c]; exact h2 j (by omega)
  · have c : j ≠ K := by omega
    rw [pk_un c, pk_un c, pk_un c]; exact h3 j (by omega) hj2
  · by_cases c : a = K
    · rw [c, pk_us, if_pos rfl]
      exact ⟨by omega, Or.inl rfl, k3.2.2.1⟩
    · have w := rk a ha q c
      rw [pk_un c]
      have z := h4 a ha w.1
      refine ⟨by omega, ?_, z.2.2⟩
      rcases z.2.1 with y | y
      · exact Or.inl y
      · right; omega
  · by_cases c : b = K
    · rw [c] at e hab
      rcases (Ek a).mp e with z | z
      · exact absurd z (by omega)
      · rw [pk_un (by omega : a ≠ K)] at s
        exact absurd ((pz_Ek hB hk a).mp z.2).2.2 s
    · have w := rk b hb q c
      have e2 := (El b a w.2).mp e
      rw [pk_un (by omega : a ≠ K)] at s ⊢
      rw [pk_un c]
      exact h5 a b hab hb w.1 e2 s
  · by_cases c : i = K
    · rw [c, pk_us, hx]
      exact Or.inr ⟨K, hk, rfl, (Ek K).mpr (Or.inl rfl), fun a q => q.2.1⟩
    · rw [pk_un c]
      exact pz_topc (fun a => (El i a (by omega)).symm) (h6 i (by omega))
  · by_cases c : b = K
    · rw [c, pk_us]
      refine pz_topc (fun a => ?_) h8
      rw [Ek, ← pz_Ek hB hk]
      constructor
      · intro e
        have l : a < K := by
          have z := (pz_Ek hB hk a).mp e
          exact (h4 a z.1 z.2.1).1
        exact ⟨l, Or.inr ⟨l, e⟩⟩
      · rintro ⟨l, (e | e)⟩
        · exact absurd e (by omega)
        · exact e.2
    · have w := rk b hb q c
      rw [pk_un c]
      exact pz_topc (fun a => and_congr Iff.rfl (El b a w.2).symm) (h7 b hb w.1)
  · rw [hx]
    refine Or.inr ⟨K, hk, rfl, ⟨hk, by rw [pk_us], by rw [pk_us]⟩, fun a q => ?_⟩
    by_cases c : a = K
    · omega
    · have := (rk a q.1 q.2.1 c).2; omega
  · by_cases c : j = K
    · rw [c, pk_us, pk_us]
      refine ⟨fun _ => ⟨hf, fun a e => ?_⟩, fun _ => by decide⟩
      rcases (Ek a).mp e with z | z
      · rw [z, pk_us]
      · rw [pk_un (by omega)]; exact ((pz_Ek hB hk a).mp z.2).2.2
    · rw [pk_un c, pk_un c, h9 j (by omega)]
      refine and_congr Iff.rfl ⟨fun z a e => ?_, fun z a e => ?_⟩
      · have e2 := (El j a (by omega)).mp e
        rw [pk_un (by have := e2.2.1; omega)]
        exact z a e2
      · have y := z a ((El j a (by omega)).mpr e)
        rw [pk_un (by have := e.2.1; omega)] at y
        exact y
  · by_cases c : j = K
    · rw [c, k3.2.2.2.2, pk_us, pk_us]
      exact ⟨fun q => absurd rfl q, fun q => absurd rfl q.2.1⟩
    · rw [pk_un c, pk_un c, h10 j (by omega)]
      constructor
      · rintro ⟨a, b, d, e⟩
        have s := pz_Bsi hB (by omega : j < 60) a b
        refine ⟨a, b, fun i hi z => ?_, by rw [pk_un (by omega)]; exact e⟩
        rw [pk_un (by omega)]
        exact d i hi ((El j i (by omega)).mp z)
      · rintro ⟨a, b, d, e⟩
        have s := pz_Bsi hB (by omega : j < 60) a b
        rw [pk_un (by omega)] at e
        refine ⟨a, b, fun i hi z => ?_, e⟩
        have y := d i hi ((El j i (by omega)).mpr z)
        rw [pk_un (by omega)] at y
        exact y
/-- SHUT -/
theorem pz_Bs (h : pz_B K frules heads ends inforce usable rt hm boxOf shutBy around inner) (hk : K < 60) (hx : x1.toInt = K) {m : Nat} (hi : inner = nI m) (hm60 : m < 60) {I U : Nat → Int32}
    (hI0 : ∀ j, m ≤ j → j < K → I j = 0) (hI1 : ∀ j, ¬ (m ≤ j ∧ j < K) → I j = upd inforce K 0 j) (hUm : U m = if frules (K - 1) = 2 then 0 else 1) (hU0 : ∀ j, ¬ j = m → m ≤ j → j < K → U j = 0) (hU1 : ∀ j, ¬ j = m → ¬ (m ≤ j ∧ j < K) → U j = usable j) :
    pz_B (K + 1) (upd frules K 2) (upd heads K (-1)) (upd ends m (x1 - 1)) I U (upd rt K 2) hm (upd boxOf K (around m)) (upd shutBy m x1) around (around m) := by
  have hn := pz_rtk h hk
  have hB := h
  have hr1 : ¬ (2 : Int32) = 1 := by decide
  obtain ⟨h1, h2, h3, h4, h5, h6, h7, h8, h9, h10⟩ := h
  have k3 := h3 K (Nat.le_refl _) hk
  have hmo : rt m = 1 ∧ shutBy m = -1 ∧ ∀ a, a < 60 → rt a = 1 → shutBy a = -1 → a ≤ m := by
    rcases h8 with ⟨e, -⟩ | ⟨m', hm', e, p, mx⟩
    · rw [hi] at e; exact absurd e (pz_nIm hm60)
    · rw [hi] at e
      have em : m = m' := (nI_eq (by omega) (by omega)).mp e
      rw [em]
      exact ⟨p.2.1, p.2.2, fun a x y z => mx a ⟨x, y, z⟩⟩
  obtain ⟨m1, m2, mx⟩ := hmo
  have mK := (h4 m hm60 m1).1
  have x1n : ¬ x1 = -1 := fun q => by rw [q, pz_m1] at hx; omega
  have El : ∀ i a, i < K → (pz_E (upd rt K 2) (upd shutBy m x1) i a ↔ pz_E rt shutBy i a) := by
    intro i a hi
    unfold pz_E
    rw [pz_rt1 hn hr1]
    by_cases c : a = m
    · rw [c, pk_us, m2]
      exact ⟨fun q => ⟨q.1, q.2.1, Or.inl rfl⟩, fun q => ⟨q.1, q.2.1, Or.inr (by omega)⟩⟩
    · rw [pk_un c]
  have opm : ∀ a, a < m → (pz_E rt shutBy m a ↔ (rt a = 1 ∧ shutBy a = -1)) := by
    intro a ha
    constructor
    · intro e
      refine ⟨e.1, ?_⟩
      by_cases c : shutBy a = -1
      · exact c
      · exact absurd m2 (h5 a m ha hm60 m1 e c).1
    · intro e
      exact ⟨e.1, by omega, Or.inl e.2⟩
  have tm := h7 m hm60 m1
  refine ⟨⟨by omega, fun j hj => ?_⟩, fun j hj => ?_, fun j hj hj2 => ?_, fun a ha q => ?_, fun a b hab hb q e s => ?_, fun i hi => ?_, fun b hb q => ?_, ?_, fun j hj => ?_, fun j hj => ?_⟩
  · by_cases c : j = K
    · rw [c, pk_us, ← h1.2 K hk, k3.2.1]
    · rw [pk_un c]; exact h1.2 j hj
  · by_cases c : j = K
    · have cm : K ≠ m := by omega
      rw [c, pk_us, pk_us, pk_us, pk_un cm]
      exact ⟨rfl, ⟨fun _ => rfl, fun _ => rfl⟩, fun _ => k3.2.2.1⟩
    · rw [pk_un c, pk_un c, pk_un c]
      have z := h2 j (by omega)
      refine ⟨z.1, z.2.1, fun q => ?_⟩
      rw [pk_un (fun y => q (by rw [y]; exact m1))]
      exact z.2.2 q
  · have c : j ≠ K := by omega
    have z := h3 j (by omega) hj2
    rw [pk_un c, pk_un c, pk_un (by omega : j ≠ m), hI1 j (by omega), pk_un c, hU1 j (by omega) (by omega)]
    exact z
  · have q := (pz_rt1 hn hr1 a).mp q
    have z := h4 a ha q
    by_cases c : a = m
    · rw [c, pk_us, pk_us, if_neg x1n]
      exact ⟨by omega, Or.inr (by omega), rfl⟩
    · rw [pk_un c, pk_un c]
      refine ⟨by omega, ?_, z.2.2⟩
      rcases z.2.1 with y | y
      · exact Or.inl y
      · right; omega
  · have q := (pz_rt1 hn hr1 b).mp q
    have bK := (h4 b hb q).1
    have e := (El b a bK).mp e
    by_cases c : a = m
    · rw [c] at hab
      have cb : b ≠ m := by omega
      rw [c, pk_us, pk_un cb]
      have nb : ¬ shutBy b = -1 := fun y => by have := mx b hb q y; omega
      have sb := pz_Bsi hB hb q nb
      exact ⟨nb, by omega⟩
    · rw [pk_un c] at s ⊢
      have z := h5 a b hab hb q e s
      have cb : b ≠ m := fun y => z.1 (by rw [y]; exact m2)
      rw [pk_un cb]
      exact z
  · by_cases c : i = K
    · rw [c, pk_us]
      refine pz_topc (fun a => ?_) tm
      unfold pz_E
      rw [pz_rt1 hn hr1]
      constructor
      · rintro ⟨l, e⟩
        have z := (opm a l).mp e
        rw [pk_un (by omega)]
        exact ⟨z.1, by omega, Or.inl z.2⟩
      · rintro ⟨q1, q2, q3⟩
        by_cases am : a = m
        · rw [am, pk_us] at q3
          rcases q3 with y | y
          · exact absurd y x1n
          · exact absurd y (by omega)
        · rw [pk_un am] at q3
          have z := (pz_Ek hB hk a).mp ⟨q1, q2, q3⟩
          have l := mx a z.1 z.2.1 z.2.2
          exact ⟨by omega, (opm a (by omega)).mpr z.2⟩
    · rw [pk_un c]
      exact pz_topc (fun a => (El i a (by omega)).symm) (h6 i (by omega))
  · have q := (pz_rt1 hn hr1 b).mp q
    have bK := (h4 b hb q).1
    exact pz_topc (fun a => and_congr Iff.rfl (El b a bK).symm) (h7 b hb q)
  · refine pz_topc (fun a => ?_) tm
    rw [pz_rt1 hn hr1]
    constructor
    · rintro ⟨l, e⟩
      have z := (opm a l).mp e
      rw [pk_un (by omega)]
      exact ⟨by omega, z⟩
    · rintro ⟨a60, q1, q3⟩
      by_cases am : a = m
      · rw [am, pk_us] at q3
        exact absurd q3 x1n
      · rw [pk_un am] at q3
        have l := mx a a60 q1 q3
        exact ⟨by omega, (opm a (by omega)).mpr ⟨q1, q3⟩⟩
  · by_cases c : j = K
    · rw [c, hI1 K (by omega), pk_us, pk_us]
      exact ⟨fun q => absurd rfl q, fun q => absurd rfl q.1⟩
    · rw [pk_un c]
      by_cases cm : m ≤ j
      · rw [hI0 j cm (by omega)]
        refine ⟨fun q => absurd rfl q, fun q => ?_⟩
        have y := q.2 m ((El j m (by omega)).mpr ⟨m1, cm, Or.inl m2⟩)
        rw [pk_us] at y
        exact absurd y x1n
      · rw [hI1 j (by omega), pk_un c, h9 j (by omega)]
        refine and_congr Iff.rfl ⟨fun z a e => ?_, fun z a e => ?_⟩
        · have e2 := (El j a (by omega)).mp e
          rw [pk_un (by have := e2.2.1; omega)]
          exact z a e2
        · have y := z a ((El j a (by omega)).mpr e)
          rw [pk_un (by have := e.2.1; omega)] at y
          exact y
  · rw [pz_rt1 hn hr1]
    by_cases c : j = K
    · rw [c, hU1 K (by omega) (by omega), k3.2.2.2.2]
      exact ⟨fun q => absurd rfl q, fun q => absurd q.1 hn⟩
    · by_cases cm : j = m
      · have t := pz_sub1 (f := x1) (by omega)
        have t2 := pz_tn (x := x1 - 1) (by omega)
        have ix : (x1 - 1).toNatClampNeg = K - 1 := by omega
        have fr := (h2 (K - 1) (by omega)).1
        rw [cm, hUm, pk_us, ix, pk_un (by omega), fr]
        constructor
        · intro q
          refine ⟨m1, x1n, fun a ha e => ?_, fun y => ?_⟩
          · rw [pk_un (by omega)]
            exact ((opm a ha).mp ((El m a mK).mp e)).2
          · rw [if_pos y] at q; exact absurd rfl q
        · rintro ⟨-, -, -, y⟩
          rw [if_neg y]; decide
      · by_cases cl : m ≤ j
        · rw [hU0 j cm cl (by omega)]
          refine ⟨fun q => absurd rfl q, fun q => ?_⟩
          have y := q.2.2.1 m (by omega) ((El j m (by omega)).mpr ⟨m1, cl, Or.inl m2⟩)
          rw [pk_us] at y
          exact absurd y x1n
        · rw [hU1 j cm (by omega), pk_un cm, h10 j (by omega)]
          constructor
          · rintro ⟨a, b, d, e⟩
            have s := pz_Bsi hB (by omega : j < 60) a b
            refine ⟨a, b, fun i hi z => ?_, by rw [pk_un (by omega)]; exact e⟩
            rw [pk_un (by omega)]
            exact d i hi ((El j i (by omega)).mp z)
          · rintro ⟨a, b, d, e⟩
            have s := pz_Bsi hB (by omega : j < 60) a b
            rw [pk_un (by omega)] at e
            refine ⟨a, b, fun i hi z => ?_, e⟩
            have y := d i hi ((El j i (by omega)).mpr z)
            rw [pk_un (by omega)] at y
            exact y
end PzKp
