/-! the static cells: the class's, then the reference's -/
def th_no : Nat → Option Nat := fun _ => none
def th_nth {α : Type} : List α → Nat → α → α
  | [], _, d => d
  | x :: _, 0, _ => x
  | _ :: r, i + 1, d => th_nth r i d
def rf_X : Nat → Option Nat := fun k => th_nth [some 5, some 12, some 13, some 14, some 15, some 16, some 27, some 29, some 30, some 31, some 35] k none
def rf_sh0 : Nat → Option Nat := fun k => th_nth [some 7] k none
def rf_sh1 : Nat → Option Nat := fun k => th_nth [some 9] k none
def rf_sh2 : Nat → Option Nat := fun k => th_nth [some 11] k none
def rf_look : Nat → Option Nat := fun k => th_nth [some 17, some 18, some 22] k none
def rf_fit : Nat → Option Nat := fun k => th_nth [some 19, some 20, some 21] k none
def rf_heap : Nat → Option Nat := fun k => th_nth [some 23, some 24, some 25, some 26] k none
def rf_tape : Nat → Option Nat := fun k => th_nth [some 28] k none
def rf_raws : Nat → Option Nat := fun k => th_nth [some 32, some 33, some 34] k none
def rf_sheetsA : Nat → Option Nat := fun k => th_nth [some 6, some 8, some 10] k none
def rf_M : Nat → Option Nat := fun k => th_nth [some 37, some 38, some 39, some 40, some 41, some 42, none, some 43, some 44, some 45, none, none, some 46, some 47, some 48, some 49, some 50, some 51, some 52, some 53, none, none, none, none, none, none, some 54, some 55, some 56, some 57, some 58, some 59, some 60, some 61, none, none, none, some 62, none, none, some 63] k none
def shC : Nat → Option th_K0 := fun a => cond (Nat.blt a 4) none (th_nth [some (.inr (9, rf_X)), some (.inl (4, 3, rf_sheetsA)), some (.inr (7, rf_sh0)), some (.inl (0, 20, th_no)), some (.inr (7, rf_sh1)), some (.inl (0, 20, th_no)), some (.inr (7, rf_sh2)), some (.inl (0, 20, th_no)), some (.inl (0, 5, th_no)), some (.inl (0, 5, th_no)), some (.inl (0, 5, th_no)), none, some (.inr (3, rf_look)), some (.inl (0, 5, th_no)), some (.inr (0, rf_fit)), some (.inl (0, 5, th_no)), some (.inl (0, 5, th_no)), some (.inl (0, 5, th_no)), some (.inr (1, rf_heap)), some (.inl (0, 60, th_no)), some (.inl (0, 12, th_no)), some (.inl (0, 12, th_no)), some (.inl (0, 12, th_no)), some (.inr (8, rf_tape)), some (.inl (2, 60, th_no)), none, none, some (.inr (4, rf_raws)), some (.inl (0, 30, th_no)), some (.inl (0, 30, th_no)), some (.inl (0, 150, th_no)), some (.inl (0, 5, th_no))] (a - 4) none)
def shM : Nat → Option th_K0 := fun a => cond (Nat.blt a 36) none (th_nth [some (.inr (10, rf_M)), some (.inl (0, 3, th_no)), some (.inl (0, 3, th_no)), some (.inl (0, 60, th_no)), some (.inl (0, 5, th_no)), some (.inl (0, 5, th_no)), some (.inl (0, 5, th_no)), some (.inl (0, 60, th_no)), some (.inl (0, 12, th_no)), some (.inl (1, 60, th_no)), some (.inl (1, 480, th_no)), some (.inl (0, 8, th_no)), some (.inl (0, 8, th_no)), some (.inl (3, 8, th_no)), some (.inl (0, 8, th_no)), some (.inl (0, 8, th_no)), some (.inl (0, 8, th_no)), some (.inl (0, 8, th_no)), some (.inl (0, 30, th_no)), some (.inl (0, 30, th_no)), some (.inl (0, 150, th_no)), some (.inl (0, 5, th_no)), some (.inl (0, 5, th_no)), some (.inl (0, 60, th_no)), some (.inl (0, 12, th_no)), some (.inl (0, 12, th_no)), some (.inl (0, 20, th_no)), some (.inl (0, 5, th_no))] (a - 36) none)
def persF : Nat → Bool := fun k => th_nth [false, false, false, false, false, false, true, false, false, false, true, true, false, false, false, false, false, false, false, false, true, true, true, true, true, true, false, false, false, false, false, false, false, false, false, false, false, false, false, false, false] k false
def pers (a k : Nat) : Bool := cond (Nat.blt a 36) false (th_nth [persF, fun _ => true, fun _ => true, fun _ => true, fun _ => true, fun _ => true, fun _ => true, fun _ => true, fun _ => true, fun _ => true, fun _ => true, fun _ => true, fun _ => true, fun _ => true, fun _ => true, fun _ => true, fun _ => true, fun _ => true, fun _ => true, fun _ => true, fun _ => true, fun _ => false, fun _ => false, fun _ => false, fun _ => false, fun _ => false, fun _ => false, fun _ => false] (a - 36) (fun _ => false) k)
