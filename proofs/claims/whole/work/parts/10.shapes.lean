/-! the static cells: the class's, then the reference's -/
def th_no : Nat → Option Nat := fun _ => none
def rf_X : Nat → Option Nat := fun k => match k with
  | 0 => some 5
  | 1 => some 12
  | 2 => some 13
  | 3 => some 14
  | 4 => some 15
  | 5 => some 16
  | 6 => some 27
  | 7 => some 29
  | 8 => some 30
  | 9 => some 31
  | 10 => some 35
  | _ => none
def rf_sh0 : Nat → Option Nat := fun k => match k with
  | 0 => some 7
  | _ => none
def rf_sh1 : Nat → Option Nat := fun k => match k with
  | 0 => some 9
  | _ => none
def rf_sh2 : Nat → Option Nat := fun k => match k with
  | 0 => some 11
  | _ => none
def rf_look : Nat → Option Nat := fun k => match k with
  | 0 => some 17
  | 1 => some 18
  | 2 => some 22
  | _ => none
def rf_fit : Nat → Option Nat := fun k => match k with
  | 0 => some 19
  | 1 => some 20
  | 2 => some 21
  | _ => none
def rf_heap : Nat → Option Nat := fun k => match k with
  | 0 => some 23
  | 1 => some 24
  | 2 => some 25
  | 3 => some 26
  | _ => none
def rf_tape : Nat → Option Nat := fun k => match k with
  | 0 => some 28
  | _ => none
def rf_raws : Nat → Option Nat := fun k => match k with
  | 0 => some 32
  | 1 => some 33
  | 2 => some 34
  | _ => none
def rf_sheetsA : Nat → Option Nat := fun k => match k with
  | 0 => some 6
  | 1 => some 8
  | 2 => some 10
  | _ => none
def rf_M : Nat → Option Nat := fun k => match k with
  | 0 => some 37
  | 1 => some 38
  | 2 => some 39
  | 3 => some 40
  | 4 => some 41
  | 5 => some 42
  | 7 => some 43
  | 8 => some 44
  | 9 => some 45
  | 12 => some 46
  | 13 => some 47
  | 14 => some 48
  | 15 => some 49
  | 16 => some 50
  | 17 => some 51
  | 18 => some 52
  | 19 => some 53
  | 26 => some 54
  | 27 => some 55
  | 28 => some 56
  | 29 => some 57
  | 30 => some 58
  | 31 => some 59
  | 32 => some 60
  | 33 => some 61
  | 37 => some 62
  | 40 => some 63
  | _ => none
def shC : Nat → Option th_K0 := fun a => match a with
  | 4 => some (.inr (9, rf_X))
  | 5 => some (.inl (4, 3, rf_sheetsA))
  | 6 => some (.inr (7, rf_sh0))
  | 7 => some (.inl (0, 20, th_no))
  | 8 => some (.inr (7, rf_sh1))
  | 9 => some (.inl (0, 20, th_no))
  | 10 => some (.inr (7, rf_sh2))
  | 11 => some (.inl (0, 20, th_no))
  | 12 => some (.inl (0, 5, th_no))
  | 13 => some (.inl (0, 5, th_no))
  | 14 => some (.inl (0, 5, th_no))
  | 16 => some (.inr (3, rf_look))
  | 17 => some (.inl (0, 5, th_no))
  | 18 => some (.inr (0, rf_fit))
  | 19 => some (.inl (0, 5, th_no))
  | 20 => some (.inl (0, 5, th_no))
  | 21 => some (.inl (0, 5, th_no))
  | 22 => some (.inr (1, rf_heap))
  | 23 => some (.inl (0, 60, th_no))
  | 24 => some (.inl (0, 12, th_no))
  | 25 => some (.inl (0, 12, th_no))
  | 26 => some (.inl (0, 12, th_no))
  | 27 => some (.inr (8, rf_tape))
  | 28 => some (.inl (2, 60, th_no))
  | 31 => some (.inr (4, rf_raws))
  | 32 => some (.inl (0, 30, th_no))
  | 33 => some (.inl (0, 30, th_no))
  | 34 => some (.inl (0, 150, th_no))
  | 35 => some (.inl (0, 5, th_no))
  | _ => none
def shM : Nat → Option th_K0 := fun a => match a with
  | 36 => some (.inr (10, rf_M))
  | 37 => some (.inl (0, 3, th_no))
  | 38 => some (.inl (0, 3, th_no))
  | 39 => some (.inl (0, 60, th_no))
  | 40 => some (.inl (0, 5, th_no))
  | 41 => some (.inl (0, 5, th_no))
  | 42 => some (.inl (0, 5, th_no))
  | 43 => some (.inl (0, 60, th_no))
  | 44 => some (.inl (0, 12, th_no))
  | 45 => some (.inl (1, 60, th_no))
  | 46 => some (.inl (1, 480, th_no))
  | 47 => some (.inl (0, 8, th_no))
  | 48 => some (.inl (0, 8, th_no))
  | 49 => some (.inl (3, 8, th_no))
  | 50 => some (.inl (0, 8, th_no))
  | 51 => some (.inl (0, 8, th_no))
  | 52 => some (.inl (0, 8, th_no))
  | 53 => some (.inl (0, 8, th_no))
  | 54 => some (.inl (0, 30, th_no))
  | 55 => some (.inl (0, 30, th_no))
  | 56 => some (.inl (0, 150, th_no))
  | 57 => some (.inl (0, 5, th_no))
  | 58 => some (.inl (0, 5, th_no))
  | 59 => some (.inl (0, 60, th_no))
  | 60 => some (.inl (0, 12, th_no))
  | 61 => some (.inl (0, 12, th_no))
  | 62 => some (.inl (0, 20, th_no))
  | 63 => some (.inl (0, 5, th_no))
  | _ => none
