/-! the relation of both states -/
def pz_tb (kinds firsts seconds : Nat → Int32) (tables : Nat → Int64) (j : Nat) : Int64 := if kinds j = 1 then pz_LB (firsts j).toNatClampNeg else if kinds j = 2 then tables (firsts j).toNatClampNeg &&& tables (seconds j).toNatClampNeg else if kinds j = 3 then tables (firsts j).toNatClampNeg ||| tables (seconds j).toNatClampNeg else if kinds j = 4 then (tables (firsts j).toNatClampNeg ^^^ (-1)) ||| tables (seconds j).toNatClampNeg else 0
/-- the formulas: their kinds, letters, tables of truth, heights -/
def pz_Rf (cnt : Int32) (kinds firsts seconds heights : Nat → Int32) (tables : Nat → Int64) : Prop := pz_F cnt kinds firsts seconds ∧ ∀ j : Nat, (j : Int) < cnt.toInt → (0 ≤ (kinds j).toInt ∧ (kinds j).toInt ≤ 4) ∧ (kinds j = 1 → 0 ≤ (firsts j).toInt ∧ (firsts j).toInt ≤ 5) ∧ tables j = pz_tb kinds firsts seconds tables j ∧ (1 ≤ (heights j).toInt ∧ (heights j).toInt ≤ 12) ∧ (¬ kinds j = 0 → ¬ kinds j = 1 → (heights (firsts j).toNatClampNeg).toInt < (heights j).toInt ∧ (heights (seconds j).toNatClampNeg).toInt < (heights j).toInt)
/-- line i lies in the box of line a -/
def pz_E (rt shutBy : Nat → Int32) (i a : Nat) : Prop := rt a = 1 ∧ a ≤ i ∧ (shutBy a = -1 ∨ (i : Int) < (shutBy a).toInt)
/-- b is the last of P, or -1 where there is none -/
def pz_top (b : Int32) (P : Nat → Prop) : Prop := (b = -1 ∧ ∀ a, ¬ P a) ∨ ∃ n : Nat, n < 60 ∧ b = nI n ∧ P n ∧ ∀ a, P a → a ≤ n
/-- k lines looked at: what both know of them -/
def pz_B (k : Nat) (frules heads ends inforce usable rt hm boxOf shutBy around : Nat → Int32) (inner : Int32) : Prop :=
  (k ≤ 60 ∧ (∀ j, j < 60 → heads j = hm j)) ∧
  (∀ j, j < k → frules j = rt j ∧ (heads j = -1 ↔ rt j = 2) ∧ (¬ rt j = 1 → ends j = -1)) ∧
  (∀ j, k ≤ j → j < 60 → frules j = -1 ∧ heads j = -1 ∧ ends j = -1 ∧ inforce j = 0 ∧ usable j = 0) ∧
  (∀ a, a < 60 → rt a = 1 → a < k ∧ (shutBy a = -1 ∨ ((a : Int) < (shutBy a).toInt ∧ (shutBy a).toInt < k)) ∧ ends a = if shutBy a = -1 then -1 else shutBy a - 1) ∧
  (∀ a b, a < b → b < 60 → rt b = 1 → pz_E rt shutBy b a → ¬ shutBy a = -1 → ¬ shutBy b = -1 ∧ (shutBy b).toInt < (shutBy a).toInt) ∧
  (∀ i, i < k → pz_top (boxOf i) (pz_E rt shutBy i)) ∧
  (∀ b, b < 60 → rt b = 1 → pz_top (around b) (fun a => a < b ∧ pz_E rt shutBy b a)) ∧
  pz_top inner (fun a => a < 60 ∧ rt a = 1 ∧ shutBy a = -1) ∧
  (∀ j, j < k → (¬ inforce j = 0 ↔ ¬ heads j = -1 ∧ ∀ a, pz_E rt shutBy j a → shutBy a = -1)) ∧
  (∀ j, j < k → (¬ usable j = 0 ↔ rt j = 1 ∧ ¬ shutBy j = -1 ∧ (∀ a, a < j → pz_E rt shutBy j a → shutBy a = -1) ∧ ¬ rt (shutBy j - 1).toNatClampNeg = 2))
/-- what the latest check told, and left -/
def pz_Rc (frules heads ends inforce usable summ : Nat → Int32) (checked stopped reason made opened : Int32) (rt hm boxOf shutBy around : Nat → Int32) : Prop :=
  (checked = 0 ∧ (∀ i, i < 4 → summ i = -1) ∧ (∀ j, j < 60 → heads j = -1 ∧ hm j = -1 ∧ inforce j = 0)) ∨
  (¬ checked = 0 ∧ (summ 0 = reason ∧ summ 1 = stopped ∧ summ 2 = opened ∧ summ 3 = made) ∧ ∃ (k : Nat) (inner : Int32), pz_B k frules heads ends inforce usable rt hm boxOf shutBy around inner)
def pz_Rm (cnt : Int32) (rt hm boxOf around : Nat → Int32) : Prop := pz_ar rt around ∧ pz_hd cnt rt hm boxOf ∧ ∀ i, i < 60 → ¬ hm i = -1 → pz_gr cnt rt hm
/-- the whole relation -/
def pz_R (cnt : Int32) (kinds firsts seconds heights : Nat → Int32) (tables : Nat → Int64) (frules heads ends inforce usable summ : Nat → Int32) (checked stopped reason made opened : Int32) (rt hm boxOf shutBy around : Nat → Int32) : Prop :=
  pz_Rf cnt kinds firsts seconds heights tables ∧ pz_Rm cnt rt hm boxOf around ∧ pz_Rc frules heads ends inforce usable summ checked stopped reason made opened rt hm boxOf shutBy around
theorem pz_Rf.kn {cnt : Int32} {kinds firsts seconds heights : Nat → Int32} {tables : Nat → Int64} (h : pz_Rf cnt kinds firsts seconds heights tables) : pz_kn cnt kinds := fun j hj => (h.2 j hj).1.1

