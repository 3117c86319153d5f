/-! the heap behind the constructors: kinds, references (printed by wip/whole/gen16.py) -/
def amKl : List amK := [.inl 11, .inl 9, .inr (3, 8), .inl 7, .inr (1, 9), .inl 7, .inr (1, 9), .inl 7, .inr (1, 9), .inl 7, .inr (1, 9), .inl 7, .inr (1, 9), .inl 7, .inr (1, 9), .inl 7, .inr (1, 9), .inl 7, .inr (1, 9), .inl 9, .inr (3, 8), .inl 7, .inr (1, 9), .inl 7, .inr (1, 9), .inl 7, .inr (1, 9), .inl 7, .inr (1, 9), .inl 7, .inr (1, 9), .inl 7, .inr (1, 9), .inl 7, .inr (1, 9), .inl 7, .inr (1, 9), .inl 7, .inr (1, 9), .inl 1, .inl 7, .inr (1, 9), .inl 7, .inr (1, 9), .inl 7, .inr (1, 9), .inl 6, .inr (3, 6), .inl 7, .inr (1, 9), .inl 7, .inr (1, 9), .inl 7, .inr (1, 9), .inl 7, .inr (1, 9), .inl 7, .inr (1, 9), .inl 7, .inr (1, 9), .inl 7, .inr (1, 9), .inl 4, .inl 0, .inr (3, 10), .inl 7, .inr (1, 9), .inl 7, .inr (1, 9), .inl 7, .inr (1, 9), .inl 7, .inr (1, 9), .inl 7, .inr (1, 9), .inl 7, .inr (1, 9), .inl 7, .inr (1, 9), .inl 7, .inr (1, 9), .inl 7, .inr (1, 9), .inl 7, .inr (1, 9), .inl 7, .inr (1, 9), .inl 0, .inr (3, 10), .inl 7, .inr (1, 9), .inl 7, .inr (1, 9), .inl 7, .inr (1, 9), .inl 7, .inr (1, 9), .inl 7, .inr (1, 9), .inl 7, .inr (1, 9), .inl 7, .inr (1, 9), .inl 7, .inr (1, 9), .inl 7, .inr (1, 9), .inl 7, .inr (1, 9), .inl 7, .inr (1, 9), .inl 0, .inr (3, 10), .inl 7, .inr (1, 9), .inl 7, .inr (1, 9), .inl 7, .inr (1, 9), .inl 7, .inr (1, 9), .inl 7, .inr (1, 9), .inl 7, .inr (1, 9), .inl 7, .inr (1, 9), .inl 7, .inr (1, 9), .inl 7, .inr (1, 9), .inl 7, .inr (1, 9), .inl 7, .inr (1, 9), .inl 2, .inl 2, .inl 3, .inr (0, 4), .inr (0, 4), .inr (0, 32), .inr (0, 32), .inl 10, .inr (2, 120), .inl 7, .inr (1, 9), .inl 5, .inr (2, 60), .inl 8, .inr (0, 96), .inr (0, 4), .inl 12, .inr (0, 40), .inr (0, 40), .inr (0, 40), .inr (1, 9), .inr (1, 9), .inr (1, 9), .inr (1, 9), .inr (1, 9), .inr (1, 9), .inr (1, 9), .inr (1, 9), .inr (1, 9), .inr (4, 18), .inr (1, 9), .inr (1, 9), .inr (1, 9), .inr (1, 9), .inr (1, 9), .inr (1, 9), .inr (1, 9), .inr (1, 9), .inr (1, 9), .inr (1, 9), .inr (1, 9), .inr (1, 9), .inr (1, 9), .inr (1, 9), .inr (1, 9), .inr (1, 9), .inr (1, 9), .inr (1, 9), .inr (0, 3), .inr (1, 9), .inr (1, 9), .inr (1, 9), .inr (1, 5), .inr (1, 5), .inr (4, 6), .inr (1, 9), .inr (1, 9), .inr (1, 9), .inr (1, 9), .inr (1, 9), .inr (1, 9), .inr (1, 9), .inr (1, 9), .inr (0, 120), .inr (0, 60), .inr (0, 4), .inr (0, 96)]
def amKK (L : Nat) (a : Nat) : amK := match a with | 0 => .inr (8, L) | a + 1 => amKl.getD a (.inr (9, 0))
def amSH (L : Nat) : amS := (202, 1915, amKK L)
def amRl : List (List (Option Nat)) := [[], [some 2, some 20, none, some 38, some 40, some 47, some 63, some 64, some 88, some 112, some 136, some 137, some 138, some 143, some 147, some 149], [some 3], [some 4, some 6, some 8, some 10, some 12, some 14, some 16, some 18], [some 5], [], [some 7], [], [some 9], [], [some 11], [], [some 13], [], [some 15], [], [some 17], [], [some 19], [], [some 21], [some 22, some 24, some 26, some 28, some 30, some 32, some 34, some 36], [some 23], [], [some 25], [], [some 27], [], [some 29], [], [some 31], [], [some 33], [], [some 35], [], [some 37], [], [some 39], [], [none, none, some 45], [some 42], [], [some 44], [], [some 46], [], [some 48, some 49, some 40], [some 51, some 53, some 55, some 57, some 59, some 61], [some 50], [], [some 52], [], [some 54], [], [some 56], [], [some 58], [], [some 60], [], [some 62], [], [some 40, some 47], [some 65, some 66, some 40], [some 68, some 70, some 72, some 74, some 76, some 78, some 80, some 82, some 84, some 86], [some 67], [], [some 69], [], [some 71], [], [some 73], [], [some 75], [], [some 77], [], [some 79], [], [some 81], [], [some 83], [], [some 85], [], [some 87], [], [some 89, some 90, some 40], [some 92, some 94, some 96, some 98, some 100, some 102, some 104, some 106, some 108, some 110], [some 91], [], [some 93], [], [some 95], [], [some 97], [], [some 99], [], [some 101], [], [some 103], [], [some 105], [], [some 107], [], [some 109], [], [some 111], [], [some 113, some 114, some 40], [some 116, some 118, some 120, some 122, some 124, some 126, some 128, some 130, some 132, some 134], [some 115], [], [some 117], [], [some 119], [], [some 121], [], [some 123], [], [some 125], [], [some 127], [], [some 129], [], [some 131], [], [some 133], [], [some 135], [], [], [], [some 139, some 140, some 141, some 142], [], [], [], [], [some 144, none, some 145], [], [some 146], [], [some 148], [], [some 150, some 151], [], [], [none, some 153, none, some 154, none, some 155, some 156, some 157, some 158, none, some 159, some 160, some 161, some 162, some 163, some 164, some 165, some 184, none, none, none, none, some 185, some 186, some 187, none, none, none, none, some 188, some 189, none, some 190, some 197, some 198, some 199, none, none, none, none, none, none, none, none, some 200, none, none, some 201, some 202], [], [], [], [], [], [], [], [], [], [], [], [], [some 166, some 167, some 168, some 169, some 170, some 171, some 172, some 173, some 174, some 175, some 176, some 177, some 178, some 179, some 180, some 181, some 182, some 183], [], [], [], [], [], [], [], [], [], [], [], [], [], [], [], [], [], [], [], [], [], [], [], [], [some 191, some 192, some 193, some 194, some 195, some 196], [], [], [], [], [], [], [], [], [], [], [], []]
def amRT (a k : Nat) : Option Nat := (amRl.getD a []).getD k none
/-- the references that never change -/
def amRok (R : amR) : Prop := ∀ a k b, amRT a k = some b → R a k = some b
theorem o1 (L : Nat) : amO (amSH L) 1 11 := ⟨by decide, Nat.le_of_ble_eq_true rfl, rfl⟩
theorem o2 (L : Nat) : amO (amSH L) 2 9 := ⟨by decide, Nat.le_of_ble_eq_true rfl, rfl⟩
theorem o3 (L : Nat) : amA (amSH L) 3 3 8 := ⟨by decide, Nat.le_of_ble_eq_true rfl, rfl⟩
theorem o4 (L : Nat) : amO (amSH L) 4 7 := ⟨by decide, Nat.le_of_ble_eq_true rfl, rfl⟩
theorem o5 (L : Nat) : amA (amSH L) 5 1 9 := ⟨by decide, Nat.le_of_ble_eq_true rfl, rfl⟩
theorem o6 (L : Nat) : amO (amSH L) 6 7 := ⟨by decide, Nat.le_of_ble_eq_true rfl, rfl⟩
theorem o7 (L : Nat) : amA (amSH L) 7 1 9 := ⟨by decide, Nat.le_of_ble_eq_true rfl, rfl⟩
theorem o8 (L : Nat) : amO (amSH L) 8 7 := ⟨by decide, Nat.le_of_ble_eq_true rfl, rfl⟩
theorem o9 (L : Nat) : amA (amSH L) 9 1 9 := ⟨by decide, Nat.le_of_ble_eq_true rfl, rfl⟩
theorem o10 (L : Nat) : amO (amSH L) 10 7 := ⟨by decide, Nat.le_of_ble_eq_true rfl, rfl⟩
theorem o11 (L : Nat) : amA (amSH L) 11 1 9 := ⟨by decide, Nat.le_of_ble_eq_true rfl, rfl⟩
theorem o12 (L : Nat) : amO (amSH L) 12 7 := ⟨by decide, Nat.le_of_ble_eq_true rfl, rfl⟩
theorem o13 (L : Nat) : amA (amSH L) 13 1 9 := ⟨by decide, Nat.le_of_ble_eq_true rfl, rfl⟩
theorem o14 (L : Nat) : amO (amSH L) 14 7 := ⟨by decide, Nat.le_of_ble_eq_true rfl, rfl⟩
theorem o15 (L : Nat) : amA (amSH L) 15 1 9 := ⟨by decide, Nat.le_of_ble_eq_true rfl, rfl⟩
theorem o16 (L : Nat) : amO (amSH L) 16 7 := ⟨by decide, Nat.le_of_ble_eq_true rfl, rfl⟩
theorem o17 (L : Nat) : amA (amSH L) 17 1 9 := ⟨by decide, Nat.le_of_ble_eq_true rfl, rfl⟩
theorem o18 (L : Nat) : amO (amSH L) 18 7 := ⟨by decide, Nat.le_of_ble_eq_true rfl, rfl⟩
theorem o19 (L : Nat) : amA (amSH L) 19 1 9 := ⟨by decide, Nat.le_of_ble_eq_true rfl, rfl⟩
theorem o20 (L : Nat) : amO (amSH L) 20 9 := ⟨by decide, Nat.le_of_ble_eq_true rfl, rfl⟩
theorem o21 (L : Nat) : amA (amSH L) 21 3 8 := ⟨by decide, Nat.le_of_ble_eq_true rfl, rfl⟩
theorem o22 (L : Nat) : amO (amSH L) 22 7 := ⟨by decide, Nat.le_of_ble_eq_true rfl, rfl⟩
theorem o23 (L : Nat) : amA (amSH L) 23 1 9 := ⟨by decide, Nat.le_of_ble_eq_true rfl, rfl⟩
theorem o24 (L : Nat) : amO (amSH L) 24 7 := ⟨by decide, Nat.le_of_ble_eq_true rfl, rfl⟩
theorem o25 (L : Nat) : amA (amSH L) 25 1 9 := ⟨by decide, Nat.le_of_ble_eq_true rfl, rfl⟩
theorem o26 (L : Nat) : amO (amSH L) 26 7 := ⟨by decide, Nat.le_of_ble_eq_true rfl, rfl⟩
theorem o27 (L : Nat) : amA (amSH L) 27 1 9 := ⟨by decide, Nat.le_of_ble_eq_true rfl, rfl⟩
theorem o28 (L : Nat) : amO (amSH L) 28 7 := ⟨by decide, Nat.le_of_ble_eq_true rfl, rfl⟩
theorem o29 (L : Nat) : amA (amSH L) 29 1 9 := ⟨by decide, Nat.le_of_ble_eq_true rfl, rfl⟩
theorem o30 (L : Nat) : amO (amSH L) 30 7 := ⟨by decide, Nat.le_of_ble_eq_true rfl, rfl⟩
theorem o31 (L : Nat) : amA (amSH L) 31 1 9 := ⟨by decide, Nat.le_of_ble_eq_true rfl, rfl⟩
theorem o32 (L : Nat) : amO (amSH L) 32 7 := ⟨by decide, Nat.le_of_ble_eq_true rfl, rfl⟩
theorem o33 (L : Nat) : amA (amSH L) 33 1 9 := ⟨by decide, Nat.le_of_ble_eq_true rfl, rfl⟩
theorem o34 (L : Nat) : amO (amSH L) 34 7 := ⟨by decide, Nat.le_of_ble_eq_true rfl, rfl⟩
theorem o35 (L : Nat) : amA (amSH L) 35 1 9 := ⟨by decide, Nat.le_of_ble_eq_true rfl, rfl⟩
theorem o36 (L : Nat) : amO (amSH L) 36 7 := ⟨by decide, Nat.le_of_ble_eq_true rfl, rfl⟩
theorem o37 (L : Nat) : amA (amSH L) 37 1 9 := ⟨by decide, Nat.le_of_ble_eq_true rfl, rfl⟩
theorem o38 (L : Nat) : amO (amSH L) 38 7 := ⟨by decide, Nat.le_of_ble_eq_true rfl, rfl⟩
theorem o39 (L : Nat) : amA (amSH L) 39 1 9 := ⟨by decide, Nat.le_of_ble_eq_true rfl, rfl⟩
theorem o40 (L : Nat) : amO (amSH L) 40 1 := ⟨by decide, Nat.le_of_ble_eq_true rfl, rfl⟩
theorem o41 (L : Nat) : amO (amSH L) 41 7 := ⟨by decide, Nat.le_of_ble_eq_true rfl, rfl⟩
theorem o42 (L : Nat) : amA (amSH L) 42 1 9 := ⟨by decide, Nat.le_of_ble_eq_true rfl, rfl⟩
theorem o43 (L : Nat) : amO (amSH L) 43 7 := ⟨by decide, Nat.le_of_ble_eq_true rfl, rfl⟩
theorem o44 (L : Nat) : amA (amSH L) 44 1 9 := ⟨by decide, Nat.le_of_ble_eq_true rfl, rfl⟩
theorem o45 (L : Nat) : amO (amSH L) 45 7 := ⟨by decide, Nat.le_of_ble_eq_true rfl, rfl⟩
theorem o46 (L : Nat) : amA (amSH L) 46 1 9 := ⟨by decide, Nat.le_of_ble_eq_true rfl, rfl⟩
theorem o47 (L : Nat) : amO (amSH L) 47 6 := ⟨by decide, Nat.le_of_ble_eq_true rfl, rfl⟩
theorem o48 (L : Nat) : amA (amSH L) 48 3 6 := ⟨by decide, Nat.le_of_ble_eq_true rfl, rfl⟩
theorem o49 (L : Nat) : amO (amSH L) 49 7 := ⟨by decide, Nat.le_of_ble_eq_true rfl, rfl⟩
theorem o50 (L : Nat) : amA (amSH L) 50 1 9 := ⟨by decide, Nat.le_of_ble_eq_true rfl, rfl⟩
theorem o51 (L : Nat) : amO (amSH L) 51 7 := ⟨by decide, Nat.le_of_ble_eq_true rfl, rfl⟩
theorem o52 (L : Nat) : amA (amSH L) 52 1 9 := ⟨by decide, Nat.le_of_ble_eq_true rfl, rfl⟩
theorem o53 (L : Nat) : amO (amSH L) 53 7 := ⟨by decide, Nat.le_of_ble_eq_true rfl, rfl⟩
theorem o54 (L : Nat) : amA (amSH L) 54 1 9 := ⟨by decide, Nat.le_of_ble_eq_true rfl, rfl⟩
theorem o55 (L : Nat) : amO (amSH L) 55 7 := ⟨by decide, Nat.le_of_ble_eq_true rfl, rfl⟩
theorem o56 (L : Nat) : amA (amSH L) 56 1 9 := ⟨by decide, Nat.le_of_ble_eq_true rfl, rfl⟩
theorem o57 (L : Nat) : amO (amSH L) 57 7 := ⟨by decide, Nat.le_of_ble_eq_true rfl, rfl⟩
theorem o58 (L : Nat) : amA (amSH L) 58 1 9 := ⟨by decide, Nat.le_of_ble_eq_true rfl, rfl⟩
theorem o59 (L : Nat) : amO (amSH L) 59 7 := ⟨by decide, Nat.le_of_ble_eq_true rfl, rfl⟩
theorem o60 (L : Nat) : amA (amSH L) 60 1 9 := ⟨by decide, Nat.le_of_ble_eq_true rfl, rfl⟩
theorem o61 (L : Nat) : amO (amSH L) 61 7 := ⟨by decide, Nat.le_of_ble_eq_true rfl, rfl⟩
theorem o62 (L : Nat) : amA (amSH L) 62 1 9 := ⟨by decide, Nat.le_of_ble_eq_true rfl, rfl⟩
theorem o63 (L : Nat) : amO (amSH L) 63 4 := ⟨by decide, Nat.le_of_ble_eq_true rfl, rfl⟩
theorem o64 (L : Nat) : amO (amSH L) 64 0 := ⟨by decide, Nat.le_of_ble_eq_true rfl, rfl⟩
theorem o65 (L : Nat) : amA (amSH L) 65 3 10 := ⟨by decide, Nat.le_of_ble_eq_true rfl, rfl⟩
theorem o66 (L : Nat) : amO (amSH L) 66 7 := ⟨by decide, Nat.le_of_ble_eq_true rfl, rfl⟩
theorem o67 (L : Nat) : amA (amSH L) 67 1 9 := ⟨by decide, Nat.le_of_ble_eq_true rfl, rfl⟩
theorem o68 (L : Nat) : amO (amSH L) 68 7 := ⟨by decide, Nat.le_of_ble_eq_true rfl, rfl⟩
theorem o69 (L : Nat) : amA (amSH L) 69 1 9 := ⟨by decide, Nat.le_of_ble_eq_true rfl, rfl⟩
theorem o70 (L : Nat) : amO (amSH L) 70 7 := ⟨by decide, Nat.le_of_ble_eq_true rfl, rfl⟩
theorem o71 (L : Nat) : amA (amSH L) 71 1 9 := ⟨by decide, Nat.le_of_ble_eq_true rfl, rfl⟩
theorem o72 (L : Nat) : amO (amSH L) 72 7 := ⟨by decide, Nat.le_of_ble_eq_true rfl, rfl⟩
theorem o73 (L : Nat) : amA (amSH L) 73 1 9 := ⟨by decide, Nat.le_of_ble_eq_true rfl, rfl⟩
theorem o74 (L : Nat) : amO (amSH L) 74 7 := ⟨by decide, Nat.le_of_ble_eq_true rfl, rfl⟩
theorem o75 (L : Nat) : amA (amSH L) 75 1 9 := ⟨by decide, Nat.le_of_ble_eq_true rfl, rfl⟩
theorem o76 (L : Nat) : amO (amSH L) 76 7 := ⟨by decide, Nat.le_of_ble_eq_true rfl, rfl⟩
theorem o77 (L : Nat) : amA (amSH L) 77 1 9 := ⟨by decide, Nat.le_of_ble_eq_true rfl, rfl⟩
theorem o78 (L : Nat) : amO (amSH L) 78 7 := ⟨by decide, Nat.le_of_ble_eq_true rfl, rfl⟩
theorem o79 (L : Nat) : amA (amSH L) 79 1 9 := ⟨by decide, Nat.le_of_ble_eq_true rfl, rfl⟩
theorem o80 (L : Nat) : amO (amSH L) 80 7 := ⟨by decide, Nat.le_of_ble_eq_true rfl, rfl⟩
theorem o81 (L : Nat) : amA (amSH L) 81 1 9 := ⟨by decide, Nat.le_of_ble_eq_true rfl, rfl⟩
theorem o82 (L : Nat) : amO (amSH L) 82 7 := ⟨by decide, Nat.le_of_ble_eq_true rfl, rfl⟩
theorem o83 (L : Nat) : amA (amSH L) 83 1 9 := ⟨by decide, Nat.le_of_ble_eq_true rfl, rfl⟩
theorem o84 (L : Nat) : amO (amSH L) 84 7 := ⟨by decide, Nat.le_of_ble_eq_true rfl, rfl⟩
theorem o85 (L : Nat) : amA (amSH L) 85 1 9 := ⟨by decide, Nat.le_of_ble_eq_true rfl, rfl⟩
theorem o86 (L : Nat) : amO (amSH L) 86 7 := ⟨by decide, Nat.le_of_ble_eq_true rfl, rfl⟩
theorem o87 (L : Nat) : amA (amSH L) 87 1 9 := ⟨by decide, Nat.le_of_ble_eq_true rfl, rfl⟩
theorem o88 (L : Nat) : amO (amSH L) 88 0 := ⟨by decide, Nat.le_of_ble_eq_true rfl, rfl⟩
theorem o89 (L : Nat) : amA (amSH L) 89 3 10 := ⟨by decide, Nat.le_of_ble_eq_true rfl, rfl⟩
theorem o90 (L : Nat) : amO (amSH L) 90 7 := ⟨by decide, Nat.le_of_ble_eq_true rfl, rfl⟩
theorem o91 (L : Nat) : amA (amSH L) 91 1 9 := ⟨by decide, Nat.le_of_ble_eq_true rfl, rfl⟩
theorem o92 (L : Nat) : amO (amSH L) 92 7 := ⟨by decide, Nat.le_of_ble_eq_true rfl, rfl⟩
theorem o93 (L : Nat) : amA (amSH L) 93 1 9 := ⟨by decide, Nat.le_of_ble_eq_true rfl, rfl⟩
theorem o94 (L : Nat) : amO (amSH L) 94 7 := ⟨by decide, Nat.le_of_ble_eq_true rfl, rfl⟩
theorem o95 (L : Nat) : amA (amSH L) 95 1 9 := ⟨by decide, Nat.le_of_ble_eq_true rfl, rfl⟩
theorem o96 (L : Nat) : amO (amSH L) 96 7 := ⟨by decide, Nat.le_of_ble_eq_true rfl, rfl⟩
theorem o97 (L : Nat) : amA (amSH L) 97 1 9 := ⟨by decide, Nat.le_of_ble_eq_true rfl, rfl⟩
theorem o98 (L : Nat) : amO (amSH L) 98 7 := ⟨by decide, Nat.le_of_ble_eq_true rfl, rfl⟩
theorem o99 (L : Nat) : amA (amSH L) 99 1 9 := ⟨by decide, Nat.le_of_ble_eq_true rfl, rfl⟩
theorem o100 (L : Nat) : amO (amSH L) 100 7 := ⟨by decide, Nat.le_of_ble_eq_true rfl, rfl⟩
theorem o101 (L : Nat) : amA (amSH L) 101 1 9 := ⟨by decide, Nat.le_of_ble_eq_true rfl, rfl⟩
theorem o102 (L : Nat) : amO (amSH L) 102 7 := ⟨by decide, Nat.le_of_ble_eq_true rfl, rfl⟩
theorem o103 (L : Nat) : amA (amSH L) 103 1 9 := ⟨by decide, Nat.le_of_ble_eq_true rfl, rfl⟩
theorem o104 (L : Nat) : amO (amSH L) 104 7 := ⟨by decide, Nat.le_of_ble_eq_true rfl, rfl⟩
theorem o105 (L : Nat) : amA (amSH L) 105 1 9 := ⟨by decide, Nat.le_of_ble_eq_true rfl, rfl⟩
theorem o106 (L : Nat) : amO (amSH L) 106 7 := ⟨by decide, Nat.le_of_ble_eq_true rfl, rfl⟩
theorem o107 (L : Nat) : amA (amSH L) 107 1 9 := ⟨by decide, Nat.le_of_ble_eq_true rfl, rfl⟩
theorem o108 (L : Nat) : amO (amSH L) 108 7 := ⟨by decide, Nat.le_of_ble_eq_true rfl, rfl⟩
theorem o109 (L : Nat) : amA (amSH L) 109 1 9 := ⟨by decide, Nat.le_of_ble_eq_true rfl, rfl⟩
theorem o110 (L : Nat) : amO (amSH L) 110 7 := ⟨by decide, Nat.le_of_ble_eq_true rfl, rfl⟩
theorem o111 (L : Nat) : amA (amSH L) 111 1 9 := ⟨by decide, Nat.le_of_ble_eq_true rfl, rfl⟩
theorem o112 (L : Nat) : amO (amSH L) 112 0 := ⟨by decide, Nat.le_of_ble_eq_true rfl, rfl⟩
theorem o113 (L : Nat) : amA (amSH L) 113 3 10 := ⟨by decide, Nat.le_of_ble_eq_true rfl, rfl⟩
theorem o114 (L : Nat) : amO (amSH L) 114 7 := ⟨by decide, Nat.le_of_ble_eq_true rfl, rfl⟩
theorem o115 (L : Nat) : amA (amSH L) 115 1 9 := ⟨by decide, Nat.le_of_ble_eq_true rfl, rfl⟩
theorem o116 (L : Nat) : amO (amSH L) 116 7 := ⟨by decide, Nat.le_of_ble_eq_true rfl, rfl⟩
theorem o117 (L : Nat) : amA (amSH L) 117 1 9 := ⟨by decide, Nat.le_of_ble_eq_true rfl, rfl⟩
theorem o118 (L : Nat) : amO (amSH L) 118 7 := ⟨by decide, Nat.le_of_ble_eq_true rfl, rfl⟩
theorem o119 (L : Nat) : amA (amSH L) 119 1 9 := ⟨by decide, Nat.le_of_ble_eq_true rfl, rfl⟩
theorem o120 (L : Nat) : amO (amSH L) 120 7 := ⟨by decide, Nat.le_of_ble_eq_true rfl, rfl⟩
theorem o121 (L : Nat) : amA (amSH L) 121 1 9 := ⟨by decide, Nat.le_of_ble_eq_true rfl, rfl⟩
theorem o122 (L : Nat) : amO (amSH L) 122 7 := ⟨by decide, Nat.le_of_ble_eq_true rfl, rfl⟩
theorem o123 (L : Nat) : amA (amSH L) 123 1 9 := ⟨by decide, Nat.le_of_ble_eq_true rfl, rfl⟩
theorem o124 (L : Nat) : amO (amSH L) 124 7 := ⟨by decide, Nat.le_of_ble_eq_true rfl, rfl⟩
theorem o125 (L : Nat) : amA (amSH L) 125 1 9 := ⟨by decide, Nat.le_of_ble_eq_true rfl, rfl⟩
theorem o126 (L : Nat) : amO (amSH L) 126 7 := ⟨by decide, Nat.le_of_ble_eq_true rfl, rfl⟩
theorem o127 (L : Nat) : amA (amSH L) 127 1 9 := ⟨by decide, Nat.le_of_ble_eq_true rfl, rfl⟩
theorem o128 (L : Nat) : amO (amSH L) 128 7 := ⟨by decide, Nat.le_of_ble_eq_true rfl, rfl⟩
theorem o129 (L : Nat) : amA (amSH L) 129 1 9 := ⟨by decide, Nat.le_of_ble_eq_true rfl, rfl⟩
theorem o130 (L : Nat) : amO (amSH L) 130 7 := ⟨by decide, Nat.le_of_ble_eq_true rfl, rfl⟩
theorem o131 (L : Nat) : amA (amSH L) 131 1 9 := ⟨by decide, Nat.le_of_ble_eq_true rfl, rfl⟩
theorem o132 (L : Nat) : amO (amSH L) 132 7 := ⟨by decide, Nat.le_of_ble_eq_true rfl, rfl⟩
theorem o133 (L : Nat) : amA (amSH L) 133 1 9 := ⟨by decide, Nat.le_of_ble_eq_true rfl, rfl⟩
theorem o134 (L : Nat) : amO (amSH L) 134 7 := ⟨by decide, Nat.le_of_ble_eq_true rfl, rfl⟩
theorem o135 (L : Nat) : amA (amSH L) 135 1 9 := ⟨by decide, Nat.le_of_ble_eq_true rfl, rfl⟩
theorem o136 (L : Nat) : amO (amSH L) 136 2 := ⟨by decide, Nat.le_of_ble_eq_true rfl, rfl⟩
theorem o137 (L : Nat) : amO (amSH L) 137 2 := ⟨by decide, Nat.le_of_ble_eq_true rfl, rfl⟩
theorem o138 (L : Nat) : amO (amSH L) 138 3 := ⟨by decide, Nat.le_of_ble_eq_true rfl, rfl⟩
theorem o139 (L : Nat) : amA (amSH L) 139 0 4 := ⟨by decide, Nat.le_of_ble_eq_true rfl, rfl⟩
theorem o140 (L : Nat) : amA (amSH L) 140 0 4 := ⟨by decide, Nat.le_of_ble_eq_true rfl, rfl⟩
theorem o141 (L : Nat) : amA (amSH L) 141 0 32 := ⟨by decide, Nat.le_of_ble_eq_true rfl, rfl⟩
theorem o142 (L : Nat) : amA (amSH L) 142 0 32 := ⟨by decide, Nat.le_of_ble_eq_true rfl, rfl⟩
theorem o143 (L : Nat) : amO (amSH L) 143 10 := ⟨by decide, Nat.le_of_ble_eq_true rfl, rfl⟩
theorem o144 (L : Nat) : amA (amSH L) 144 2 120 := ⟨by decide, Nat.le_of_ble_eq_true rfl, rfl⟩
theorem o145 (L : Nat) : amO (amSH L) 145 7 := ⟨by decide, Nat.le_of_ble_eq_true rfl, rfl⟩
theorem o146 (L : Nat) : amA (amSH L) 146 1 9 := ⟨by decide, Nat.le_of_ble_eq_true rfl, rfl⟩
theorem o147 (L : Nat) : amO (amSH L) 147 5 := ⟨by decide, Nat.le_of_ble_eq_true rfl, rfl⟩
theorem o148 (L : Nat) : amA (amSH L) 148 2 60 := ⟨by decide, Nat.le_of_ble_eq_true rfl, rfl⟩
theorem o149 (L : Nat) : amO (amSH L) 149 8 := ⟨by decide, Nat.le_of_ble_eq_true rfl, rfl⟩
theorem o150 (L : Nat) : amA (amSH L) 150 0 96 := ⟨by decide, Nat.le_of_ble_eq_true rfl, rfl⟩
theorem o151 (L : Nat) : amA (amSH L) 151 0 4 := ⟨by decide, Nat.le_of_ble_eq_true rfl, rfl⟩
theorem o152 (L : Nat) : amO (amSH L) 152 12 := ⟨by decide, Nat.le_of_ble_eq_true rfl, rfl⟩
theorem o153 (L : Nat) : amA (amSH L) 153 0 40 := ⟨by decide, Nat.le_of_ble_eq_true rfl, rfl⟩
theorem o154 (L : Nat) : amA (amSH L) 154 0 40 := ⟨by decide, Nat.le_of_ble_eq_true rfl, rfl⟩
theorem o155 (L : Nat) : amA (amSH L) 155 0 40 := ⟨by decide, Nat.le_of_ble_eq_true rfl, rfl⟩
theorem o156 (L : Nat) : amA (amSH L) 156 1 9 := ⟨by decide, Nat.le_of_ble_eq_true rfl, rfl⟩
theorem o157 (L : Nat) : amA (amSH L) 157 1 9 := ⟨by decide, Nat.le_of_ble_eq_true rfl, rfl⟩
theorem o158 (L : Nat) : amA (amSH L) 158 1 9 := ⟨by decide, Nat.le_of_ble_eq_true rfl, rfl⟩
theorem o159 (L : Nat) : amA (amSH L) 159 1 9 := ⟨by decide, Nat.le_of_ble_eq_true rfl, rfl⟩
theorem o160 (L : Nat) : amA (amSH L) 160 1 9 := ⟨by decide, Nat.le_of_ble_eq_true rfl, rfl⟩
theorem o161 (L : Nat) : amA (amSH L) 161 1 9 := ⟨by decide, Nat.le_of_ble_eq_true rfl, rfl⟩
theorem o162 (L : Nat) : amA (amSH L) 162 1 9 := ⟨by decide, Nat.le_of_ble_eq_true rfl, rfl⟩
theorem o163 (L : Nat) : amA (amSH L) 163 1 9 := ⟨by decide, Nat.le_of_ble_eq_true rfl, rfl⟩
theorem o164 (L : Nat) : amA (amSH L) 164 1 9 := ⟨by decide, Nat.le_of_ble_eq_true rfl, rfl⟩
theorem o165 (L : Nat) : amA (amSH L) 165 4 18 := ⟨by decide, Nat.le_of_ble_eq_true rfl, rfl⟩
theorem o166 (L : Nat) : amA (amSH L) 166 1 9 := ⟨by decide, Nat.le_of_ble_eq_true rfl, rfl⟩
theorem o167 (L : Nat) : amA (amSH L) 167 1 9 := ⟨by decide, Nat.le_of_ble_eq_true rfl, rfl⟩
theorem o168 (L : Nat) : amA (amSH L) 168 1 9 := ⟨by decide, Nat.le_of_ble_eq_true rfl, rfl⟩
theorem o169 (L : Nat) : amA (amSH L) 169 1 9 := ⟨by decide, Nat.le_of_ble_eq_true rfl, rfl⟩
theorem o170 (L : Nat) : amA (amSH L) 170 1 9 := ⟨by decide, Nat.le_of_ble_eq_true rfl, rfl⟩
theorem o171 (L : Nat) : amA (amSH L) 171 1 9 := ⟨by decide, Nat.le_of_ble_eq_true rfl, rfl⟩
theorem o172 (L : Nat) : amA (amSH L) 172 1 9 := ⟨by decide, Nat.le_of_ble_eq_true rfl, rfl⟩
theorem o173 (L : Nat) : amA (amSH L) 173 1 9 := ⟨by decide, Nat.le_of_ble_eq_true rfl, rfl⟩
theorem o174 (L : Nat) : amA (amSH L) 174 1 9 := ⟨by decide, Nat.le_of_ble_eq_true rfl, rfl⟩
theorem o175 (L : Nat) : amA (amSH L) 175 1 9 := ⟨by decide, Nat.le_of_ble_eq_true rfl, rfl⟩
theorem o176 (L : Nat) : amA (amSH L) 176 1 9 := ⟨by decide, Nat.le_of_ble_eq_true rfl, rfl⟩
theorem o177 (L : Nat) : amA (amSH L) 177 1 9 := ⟨by decide, Nat.le_of_ble_eq_true rfl, rfl⟩
theorem o178 (L : Nat) : amA (amSH L) 178 1 9 := ⟨by decide, Nat.le_of_ble_eq_true rfl, rfl⟩
theorem o179 (L : Nat) : amA (amSH L) 179 1 9 := ⟨by decide, Nat.le_of_ble_eq_true rfl, rfl⟩
theorem o180 (L : Nat) : amA (amSH L) 180 1 9 := ⟨by decide, Nat.le_of_ble_eq_true rfl, rfl⟩
theorem o181 (L : Nat) : amA (amSH L) 181 1 9 := ⟨by decide, Nat.le_of_ble_eq_true rfl, rfl⟩
theorem o182 (L : Nat) : amA (amSH L) 182 1 9 := ⟨by decide, Nat.le_of_ble_eq_true rfl, rfl⟩
theorem o183 (L : Nat) : amA (amSH L) 183 1 9 := ⟨by decide, Nat.le_of_ble_eq_true rfl, rfl⟩
theorem o184 (L : Nat) : amA (amSH L) 184 0 3 := ⟨by decide, Nat.le_of_ble_eq_true rfl, rfl⟩
theorem o185 (L : Nat) : amA (amSH L) 185 1 9 := ⟨by decide, Nat.le_of_ble_eq_true rfl, rfl⟩
theorem o186 (L : Nat) : amA (amSH L) 186 1 9 := ⟨by decide, Nat.le_of_ble_eq_true rfl, rfl⟩
theorem o187 (L : Nat) : amA (amSH L) 187 1 9 := ⟨by decide, Nat.le_of_ble_eq_true rfl, rfl⟩
theorem o188 (L : Nat) : amA (amSH L) 188 1 5 := ⟨by decide, Nat.le_of_ble_eq_true rfl, rfl⟩
theorem o189 (L : Nat) : amA (amSH L) 189 1 5 := ⟨by decide, Nat.le_of_ble_eq_true rfl, rfl⟩
theorem o190 (L : Nat) : amA (amSH L) 190 4 6 := ⟨by decide, Nat.le_of_ble_eq_true rfl, rfl⟩
theorem o191 (L : Nat) : amA (amSH L) 191 1 9 := ⟨by decide, Nat.le_of_ble_eq_true rfl, rfl⟩
theorem o192 (L : Nat) : amA (amSH L) 192 1 9 := ⟨by decide, Nat.le_of_ble_eq_true rfl, rfl⟩
theorem o193 (L : Nat) : amA (amSH L) 193 1 9 := ⟨by decide, Nat.le_of_ble_eq_true rfl, rfl⟩
theorem o194 (L : Nat) : amA (amSH L) 194 1 9 := ⟨by decide, Nat.le_of_ble_eq_true rfl, rfl⟩
theorem o195 (L : Nat) : amA (amSH L) 195 1 9 := ⟨by decide, Nat.le_of_ble_eq_true rfl, rfl⟩
theorem o196 (L : Nat) : amA (amSH L) 196 1 9 := ⟨by decide, Nat.le_of_ble_eq_true rfl, rfl⟩
theorem o197 (L : Nat) : amA (amSH L) 197 1 9 := ⟨by decide, Nat.le_of_ble_eq_true rfl, rfl⟩
theorem o198 (L : Nat) : amA (amSH L) 198 1 9 := ⟨by decide, Nat.le_of_ble_eq_true rfl, rfl⟩
theorem o199 (L : Nat) : amA (amSH L) 199 0 120 := ⟨by decide, Nat.le_of_ble_eq_true rfl, rfl⟩
theorem o200 (L : Nat) : amA (amSH L) 200 0 60 := ⟨by decide, Nat.le_of_ble_eq_true rfl, rfl⟩
theorem o201 (L : Nat) : amA (amSH L) 201 0 4 := ⟨by decide, Nat.le_of_ble_eq_true rfl, rfl⟩
theorem o202 (L : Nat) : amA (amSH L) 202 0 96 := ⟨by decide, Nat.le_of_ble_eq_true rfl, rfl⟩
theorem kbipush_m14 : amKI (.bipush (-14)) = some (-14) := by decide
theorem kbipush_m13 : amKI (.bipush (-13)) = some (-13) := by decide
theorem kbipush_m11 : amKI (.bipush (-11)) = some (-11) := by decide
theorem kbipush_m9 : amKI (.bipush (-9)) = some (-9) := by decide
theorem kbipush_m6 : amKI (.bipush (-6)) = some (-6) := by decide
theorem kbipush_m5 : amKI (.bipush (-5)) = some (-5) := by decide
theorem kbipush_m3 : amKI (.bipush (-3)) = some (-3) := by decide
theorem kbipush_m2 : amKI (.bipush (-2)) = some (-2) := by decide
theorem kbipush_6 : amKI (.bipush 6) = some 6 := by decide
theorem kbipush_7 : amKI (.bipush 7) = some 7 := by decide
theorem kbipush_8 : amKI (.bipush 8) = some 8 := by decide
theorem kbipush_9 : amKI (.bipush 9) = some 9 := by decide
theorem kbipush_10 : amKI (.bipush 10) = some 10 := by decide
theorem kbipush_11 : amKI (.bipush 11) = some 11 := by decide
theorem kbipush_12 : amKI (.bipush 12) = some 12 := by decide
theorem kbipush_18 : amKI (.bipush 18) = some 18 := by decide
theorem kbipush_24 : amKI (.bipush 24) = some 24 := by decide
theorem kbipush_27 : amKI (.bipush 27) = some 27 := by decide
theorem kbipush_31 : amKI (.bipush 31) = some 31 := by decide
theorem kbipush_32 : amKI (.bipush 32) = some 32 := by decide
theorem kbipush_40 : amKI (.bipush 40) = some 40 := by decide
theorem kbipush_43 : amKI (.bipush 43) = some 43 := by decide
theorem kbipush_45 : amKI (.bipush 45) = some 45 := by decide
theorem kbipush_48 : amKI (.bipush 48) = some 48 := by decide
theorem kbipush_50 : amKI (.bipush 50) = some 50 := by decide
theorem kbipush_52 : amKI (.bipush 52) = some 52 := by decide
theorem kbipush_57 : amKI (.bipush 57) = some 57 := by decide
theorem kbipush_59 : amKI (.bipush 59) = some 59 := by decide
theorem kbipush_60 : amKI (.bipush 60) = some 60 := by decide
theorem kbipush_61 : amKI (.bipush 61) = some 61 := by decide
theorem kbipush_63 : amKI (.bipush 63) = some 63 := by decide
theorem kbipush_94 : amKI (.bipush 94) = some 94 := by decide
theorem kbipush_96 : amKI (.bipush 96) = some 96 := by decide
theorem kbipush_97 : amKI (.bipush 97) = some 97 := by decide
theorem kbipush_99 : amKI (.bipush 99) = some 99 := by decide
theorem kbipush_100 : amKI (.bipush 100) = some 100 := by decide
theorem kbipush_101 : amKI (.bipush 101) = some 101 := by decide
theorem kbipush_102 : amKI (.bipush 102) = some 102 := by decide
theorem kbipush_104 : amKI (.bipush 104) = some 104 := by decide
theorem kbipush_105 : amKI (.bipush 105) = some 105 := by decide
theorem kbipush_108 : amKI (.bipush 108) = some 108 := by decide
theorem kbipush_109 : amKI (.bipush 109) = some 109 := by decide
theorem kbipush_110 : amKI (.bipush 110) = some 110 := by decide
theorem kbipush_111 : amKI (.bipush 111) = some 111 := by decide
theorem kbipush_112 : amKI (.bipush 112) = some 112 := by decide
theorem kbipush_114 : amKI (.bipush 114) = some 114 := by decide
theorem kbipush_115 : amKI (.bipush 115) = some 115 := by decide
theorem kbipush_116 : amKI (.bipush 116) = some 116 := by decide
theorem kbipush_117 : amKI (.bipush 117) = some 117 := by decide
theorem kbipush_118 : amKI (.bipush 118) = some 118 := by decide
theorem kbipush_120 : amKI (.bipush 120) = some 120 := by decide
theorem kbipush_122 : amKI (.bipush 122) = some 122 := by decide
theorem kbipush_127 : amKI (.bipush 127) = some 127 := by decide
theorem kiconst_m1 : amKI (.iconst (-1)) = some (-1) := by decide
theorem kiconst_0 : amKI (.iconst 0) = some 0 := by decide
theorem kiconst_1 : amKI (.iconst 1) = some 1 := by decide
theorem kiconst_2 : amKI (.iconst 2) = some 2 := by decide
theorem kiconst_3 : amKI (.iconst 3) = some 3 := by decide
theorem kiconst_4 : amKI (.iconst 4) = some 4 := by decide
theorem kiconst_5 : amKI (.iconst 5) = some 5 := by decide
theorem ksipush_m2000 : amKI (.sipush (-2000)) = some (-2000) := by decide
theorem ksipush_m1000 : amKI (.sipush (-1000)) = some (-1000) := by decide
theorem ksipush_m999 : amKI (.sipush (-999)) = some (-999) := by decide
theorem ksipush_512 : amKI (.sipush 512) = some 512 := by decide
theorem ksipush_999 : amKI (.sipush 999) = some 999 := by decide
theorem ksipush_1000 : amKI (.sipush 1000) = some 1000 := by decide
theorem ksipush_2000 : amKI (.sipush 2000) = some 2000 := by decide
theorem ksipush_12345 : amKI (.sipush 12345) = some 12345 := by decide
theorem kj0 : amJc[0]? = some ((-1000000) : Int64) := by decide
theorem kj1 : amJc[1]? = some (1000000 : Int64) := by decide
theorem kj2 : amJc[2]? = some ((-1) : Int64) := by decide
theorem kj3 : amJc[3]? = some (2 : Int64) := by decide
theorem kj4 : amJc[4]? = some ((-9223372036854775808) : Int64) := by decide
theorem kj5 : amJc[5]? = some (999 : Int64) := by decide
theorem kj6 : amJc[6]? = some ((-999) : Int64) := by decide
theorem kj7 : amJc[7]? = some (4 : Int64) := by decide
theorem kj8 : amJc[8]? = some (1000 : Int64) := by decide
theorem kj9 : amJc[9]? = some ((-1000) : Int64) := by decide
theorem kj10 : amJc[10]? = some (9 : Int64) := by decide
theorem kj11 : amJc[11]? = some (3 : Int64) := by decide
theorem kj12 : amJc[12]? = some (11 : Int64) := by decide
theorem kj13 : amJc[13]? = some ((-9) : Int64) := by decide
theorem kj14 : amJc[14]? = some (127 : Int64) := by decide
theorem kj15 : amJc[15]? = some (49 : Int64) := by decide
theorem kj16 : amJc[16]? = some (57 : Int64) := by decide
theorem kj17 : amJc[17]? = some (48 : Int64) := by decide
theorem kj18 : amJc[18]? = some (50 : Int64) := by decide
theorem kj19 : amJc[19]? = some (52 : Int64) := by decide
theorem kj20 : amJc[20]? = some (97 : Int64) := by decide
theorem kj21 : amJc[21]? = some (122 : Int64) := by decide
theorem kj22 : amJc[22]? = some (12 : Int64) := by decide
theorem ki0 : amIc[0]? = some (1103515245 : Int32) := by decide
theorem ki1 : amIc[1]? = some (2147483647 : Int32) := by decide
theorem ki2 : amIc[2]? = some (65536 : Int32) := by decide
theorem f0 : 0 / 64 = 0 ∧ 0 % 64 = 0 ∧ 0 < amFn 0 ∧ amFk 0 0 = 2 := by decide
theorem f1 : 1 / 64 = 0 ∧ 1 % 64 = 1 ∧ 1 < amFn 0 ∧ amFk 0 1 = 2 := by decide
theorem f2 : 2 / 64 = 0 ∧ 2 % 64 = 2 ∧ 2 < amFn 0 ∧ amFk 0 2 = 2 := by decide
theorem f3 : 3 / 64 = 0 ∧ 3 % 64 = 3 ∧ 3 < amFn 0 ∧ amFk 0 3 = 0 := by decide
theorem f4 : 4 / 64 = 0 ∧ 4 % 64 = 4 ∧ 4 < amFn 0 ∧ amFk 0 4 = 0 := by decide
theorem f5 : 5 / 64 = 0 ∧ 5 % 64 = 5 ∧ 5 < amFn 0 ∧ amFk 0 5 = 0 := by decide
theorem f64 : 64 / 64 = 1 ∧ 64 % 64 = 0 ∧ 0 < amFn 1 ∧ amFk 1 0 = 2 := by decide
theorem f65 : 65 / 64 = 1 ∧ 65 % 64 = 1 ∧ 1 < amFn 1 ∧ amFk 1 1 = 2 := by decide
theorem f66 : 66 / 64 = 1 ∧ 66 % 64 = 2 ∧ 2 < amFn 1 ∧ amFk 1 2 = 2 := by decide
theorem f128 : 128 / 64 = 2 ∧ 128 % 64 = 0 ∧ 0 < amFn 2 ∧ amFk 2 0 = 1 := by decide
theorem f129 : 129 / 64 = 2 ∧ 129 % 64 = 1 ∧ 1 < amFn 2 ∧ amFk 2 1 = 1 := by decide
theorem f130 : 130 / 64 = 2 ∧ 130 % 64 = 2 ∧ 2 < amFn 2 ∧ amFk 2 2 = 1 := by decide
theorem f131 : 131 / 64 = 2 ∧ 131 % 64 = 3 ∧ 3 < amFn 2 ∧ amFk 2 3 = 0 := by decide
theorem f132 : 132 / 64 = 2 ∧ 132 % 64 = 4 ∧ 4 < amFn 2 ∧ amFk 2 4 = 0 := by decide
theorem f192 : 192 / 64 = 3 ∧ 192 % 64 = 0 ∧ 0 < amFn 3 ∧ amFk 3 0 = 2 := by decide
theorem f193 : 193 / 64 = 3 ∧ 193 % 64 = 1 ∧ 1 < amFn 3 ∧ amFk 3 1 = 2 := by decide
theorem f194 : 194 / 64 = 3 ∧ 194 % 64 = 2 ∧ 2 < amFn 3 ∧ amFk 3 2 = 2 := by decide
theorem f195 : 195 / 64 = 3 ∧ 195 % 64 = 3 ∧ 3 < amFn 3 ∧ amFk 3 3 = 2 := by decide
theorem f196 : 196 / 64 = 3 ∧ 196 % 64 = 4 ∧ 4 < amFn 3 ∧ amFk 3 4 = 0 := by decide
theorem f256 : 256 / 64 = 4 ∧ 256 % 64 = 0 ∧ 0 < amFn 4 ∧ amFk 4 0 = 2 := by decide
theorem f257 : 257 / 64 = 4 ∧ 257 % 64 = 1 ∧ 1 < amFn 4 ∧ amFk 4 1 = 2 := by decide
theorem f320 : 320 / 64 = 5 ∧ 320 % 64 = 0 ∧ 0 < amFn 5 ∧ amFk 5 0 = 2 := by decide
theorem f321 : 321 / 64 = 5 ∧ 321 % 64 = 1 ∧ 1 < amFn 5 ∧ amFk 5 1 = 0 := by decide
theorem f384 : 384 / 64 = 6 ∧ 384 % 64 = 0 ∧ 0 < amFn 6 ∧ amFk 6 0 = 2 := by decide
theorem f385 : 385 / 64 = 6 ∧ 385 % 64 = 1 ∧ 1 < amFn 6 ∧ amFk 6 1 = 2 := by decide
theorem f386 : 386 / 64 = 6 ∧ 386 % 64 = 2 ∧ 2 < amFn 6 ∧ amFk 6 2 = 2 := by decide
theorem f448 : 448 / 64 = 7 ∧ 448 % 64 = 0 ∧ 0 < amFn 7 ∧ amFk 7 0 = 2 := by decide
theorem f512 : 512 / 64 = 8 ∧ 512 % 64 = 0 ∧ 0 < amFn 8 ∧ amFk 8 0 = 2 := by decide
theorem f513 : 513 / 64 = 8 ∧ 513 % 64 = 1 ∧ 1 < amFn 8 ∧ amFk 8 1 = 2 := by decide
theorem f576 : 576 / 64 = 9 ∧ 576 % 64 = 0 ∧ 0 < amFn 9 ∧ amFk 9 0 = 2 := by decide
theorem f577 : 577 / 64 = 9 ∧ 577 % 64 = 1 ∧ 1 < amFn 9 ∧ amFk 9 1 = 0 := by decide
theorem f640 : 640 / 64 = 10 ∧ 640 % 64 = 0 ∧ 0 < amFn 10 ∧ amFk 10 0 = 2 := by decide
theorem f641 : 641 / 64 = 10 ∧ 641 % 64 = 1 ∧ 1 < amFn 10 ∧ amFk 10 1 = 0 := by decide
theorem f642 : 642 / 64 = 10 ∧ 642 % 64 = 2 ∧ 2 < amFn 10 ∧ amFk 10 2 = 2 := by decide
theorem f643 : 643 / 64 = 10 ∧ 643 % 64 = 3 ∧ 3 < amFn 10 ∧ amFk 10 3 = 0 := by decide
theorem f644 : 644 / 64 = 10 ∧ 644 % 64 = 4 ∧ 4 < amFn 10 ∧ amFk 10 4 = 0 := by decide
theorem f645 : 645 / 64 = 10 ∧ 645 % 64 = 5 ∧ 5 < amFn 10 ∧ amFk 10 5 = 0 := by decide
theorem f646 : 646 / 64 = 10 ∧ 646 % 64 = 6 ∧ 6 < amFn 10 ∧ amFk 10 6 = 0 := by decide
theorem f647 : 647 / 64 = 10 ∧ 647 % 64 = 7 ∧ 7 < amFn 10 ∧ amFk 10 7 = 0 := by decide
theorem f704 : 704 / 64 = 11 ∧ 704 % 64 = 0 ∧ 0 < amFn 11 ∧ amFk 11 0 = 2 := by decide
theorem f705 : 705 / 64 = 11 ∧ 705 % 64 = 1 ∧ 1 < amFn 11 ∧ amFk 11 1 = 2 := by decide
theorem f706 : 706 / 64 = 11 ∧ 706 % 64 = 2 ∧ 2 < amFn 11 ∧ amFk 11 2 = 3 := by decide
theorem f707 : 707 / 64 = 11 ∧ 707 % 64 = 3 ∧ 3 < amFn 11 ∧ amFk 11 3 = 2 := by decide
theorem f708 : 708 / 64 = 11 ∧ 708 % 64 = 4 ∧ 4 < amFn 11 ∧ amFk 11 4 = 2 := by decide
theorem f709 : 709 / 64 = 11 ∧ 709 % 64 = 5 ∧ 5 < amFn 11 ∧ amFk 11 5 = 2 := by decide
theorem f710 : 710 / 64 = 11 ∧ 710 % 64 = 6 ∧ 6 < amFn 11 ∧ amFk 11 6 = 2 := by decide
theorem f711 : 711 / 64 = 11 ∧ 711 % 64 = 7 ∧ 7 < amFn 11 ∧ amFk 11 7 = 2 := by decide
theorem f712 : 712 / 64 = 11 ∧ 712 % 64 = 8 ∧ 8 < amFn 11 ∧ amFk 11 8 = 2 := by decide
theorem f713 : 713 / 64 = 11 ∧ 713 % 64 = 9 ∧ 9 < amFn 11 ∧ amFk 11 9 = 2 := by decide
theorem f714 : 714 / 64 = 11 ∧ 714 % 64 = 10 ∧ 10 < amFn 11 ∧ amFk 11 10 = 2 := by decide
theorem f715 : 715 / 64 = 11 ∧ 715 % 64 = 11 ∧ 11 < amFn 11 ∧ amFk 11 11 = 2 := by decide
theorem f716 : 716 / 64 = 11 ∧ 716 % 64 = 12 ∧ 12 < amFn 11 ∧ amFk 11 12 = 2 := by decide
theorem f717 : 717 / 64 = 11 ∧ 717 % 64 = 13 ∧ 13 < amFn 11 ∧ amFk 11 13 = 2 := by decide
theorem f718 : 718 / 64 = 11 ∧ 718 % 64 = 14 ∧ 14 < amFn 11 ∧ amFk 11 14 = 2 := by decide
theorem f719 : 719 / 64 = 11 ∧ 719 % 64 = 15 ∧ 15 < amFn 11 ∧ amFk 11 15 = 2 := by decide
theorem f769 : 769 / 64 = 12 ∧ 769 % 64 = 1 ∧ 1 < amFn 12 ∧ amFk 12 1 = 2 := by decide
theorem f770 : 770 / 64 = 12 ∧ 770 % 64 = 2 ∧ 2 < amFn 12 ∧ amFk 12 2 = 0 := by decide
theorem f771 : 771 / 64 = 12 ∧ 771 % 64 = 3 ∧ 3 < amFn 12 ∧ amFk 12 3 = 2 := by decide
theorem f772 : 772 / 64 = 12 ∧ 772 % 64 = 4 ∧ 4 < amFn 12 ∧ amFk 12 4 = 0 := by decide
theorem f773 : 773 / 64 = 12 ∧ 773 % 64 = 5 ∧ 5 < amFn 12 ∧ amFk 12 5 = 2 := by decide
theorem f774 : 774 / 64 = 12 ∧ 774 % 64 = 6 ∧ 6 < amFn 12 ∧ amFk 12 6 = 2 := by decide
theorem f775 : 775 / 64 = 12 ∧ 775 % 64 = 7 ∧ 7 < amFn 12 ∧ amFk 12 7 = 2 := by decide
theorem f776 : 776 / 64 = 12 ∧ 776 % 64 = 8 ∧ 8 < amFn 12 ∧ amFk 12 8 = 2 := by decide
theorem f777 : 777 / 64 = 12 ∧ 777 % 64 = 9 ∧ 9 < amFn 12 ∧ amFk 12 9 = 3 := by decide
theorem f778 : 778 / 64 = 12 ∧ 778 % 64 = 10 ∧ 10 < amFn 12 ∧ amFk 12 10 = 2 := by decide
theorem f779 : 779 / 64 = 12 ∧ 779 % 64 = 11 ∧ 11 < amFn 12 ∧ amFk 12 11 = 2 := by decide
theorem f780 : 780 / 64 = 12 ∧ 780 % 64 = 12 ∧ 12 < amFn 12 ∧ amFk 12 12 = 2 := by decide
theorem f781 : 781 / 64 = 12 ∧ 781 % 64 = 13 ∧ 13 < amFn 12 ∧ amFk 12 13 = 2 := by decide
theorem f782 : 782 / 64 = 12 ∧ 782 % 64 = 14 ∧ 14 < amFn 12 ∧ amFk 12 14 = 2 := by decide
theorem f783 : 783 / 64 = 12 ∧ 783 % 64 = 15 ∧ 15 < amFn 12 ∧ amFk 12 15 = 2 := by decide
theorem f784 : 784 / 64 = 12 ∧ 784 % 64 = 16 ∧ 16 < amFn 12 ∧ amFk 12 16 = 2 := by decide
theorem f785 : 785 / 64 = 12 ∧ 785 % 64 = 17 ∧ 17 < amFn 12 ∧ amFk 12 17 = 2 := by decide
theorem f786 : 786 / 64 = 12 ∧ 786 % 64 = 18 ∧ 18 < amFn 12 ∧ amFk 12 18 = 1 := by decide
theorem f787 : 787 / 64 = 12 ∧ 787 % 64 = 19 ∧ 19 < amFn 12 ∧ amFk 12 19 = 1 := by decide
theorem f788 : 788 / 64 = 12 ∧ 788 % 64 = 20 ∧ 20 < amFn 12 ∧ amFk 12 20 = 1 := by decide
theorem f789 : 789 / 64 = 12 ∧ 789 % 64 = 21 ∧ 21 < amFn 12 ∧ amFk 12 21 = 1 := by decide
theorem f790 : 790 / 64 = 12 ∧ 790 % 64 = 22 ∧ 22 < amFn 12 ∧ amFk 12 22 = 2 := by decide
theorem f791 : 791 / 64 = 12 ∧ 791 % 64 = 23 ∧ 23 < amFn 12 ∧ amFk 12 23 = 2 := by decide
theorem f792 : 792 / 64 = 12 ∧ 792 % 64 = 24 ∧ 24 < amFn 12 ∧ amFk 12 24 = 2 := by decide
theorem f793 : 793 / 64 = 12 ∧ 793 % 64 = 25 ∧ 25 < amFn 12 ∧ amFk 12 25 = 1 := by decide
theorem f794 : 794 / 64 = 12 ∧ 794 % 64 = 26 ∧ 26 < amFn 12 ∧ amFk 12 26 = 1 := by decide
theorem f795 : 795 / 64 = 12 ∧ 795 % 64 = 27 ∧ 27 < amFn 12 ∧ amFk 12 27 = 1 := by decide
theorem f796 : 796 / 64 = 12 ∧ 796 % 64 = 28 ∧ 28 < amFn 12 ∧ amFk 12 28 = 1 := by decide
theorem f797 : 797 / 64 = 12 ∧ 797 % 64 = 29 ∧ 29 < amFn 12 ∧ amFk 12 29 = 2 := by decide
theorem f798 : 798 / 64 = 12 ∧ 798 % 64 = 30 ∧ 30 < amFn 12 ∧ amFk 12 30 = 2 := by decide
theorem f799 : 799 / 64 = 12 ∧ 799 % 64 = 31 ∧ 31 < amFn 12 ∧ amFk 12 31 = 0 := by decide
theorem f800 : 800 / 64 = 12 ∧ 800 % 64 = 32 ∧ 32 < amFn 12 ∧ amFk 12 32 = 2 := by decide
theorem f801 : 801 / 64 = 12 ∧ 801 % 64 = 33 ∧ 33 < amFn 12 ∧ amFk 12 33 = 2 := by decide
theorem f802 : 802 / 64 = 12 ∧ 802 % 64 = 34 ∧ 34 < amFn 12 ∧ amFk 12 34 = 2 := by decide
theorem f803 : 803 / 64 = 12 ∧ 803 % 64 = 35 ∧ 35 < amFn 12 ∧ amFk 12 35 = 2 := by decide
theorem f804 : 804 / 64 = 12 ∧ 804 % 64 = 36 ∧ 36 < amFn 12 ∧ amFk 12 36 = 0 := by decide
theorem f805 : 805 / 64 = 12 ∧ 805 % 64 = 37 ∧ 37 < amFn 12 ∧ amFk 12 37 = 0 := by decide
theorem f806 : 806 / 64 = 12 ∧ 806 % 64 = 38 ∧ 38 < amFn 12 ∧ amFk 12 38 = 3 := by decide
theorem f807 : 807 / 64 = 12 ∧ 807 % 64 = 39 ∧ 39 < amFn 12 ∧ amFk 12 39 = 0 := by decide
theorem f808 : 808 / 64 = 12 ∧ 808 % 64 = 40 ∧ 40 < amFn 12 ∧ amFk 12 40 = 0 := by decide
theorem f809 : 809 / 64 = 12 ∧ 809 % 64 = 41 ∧ 41 < amFn 12 ∧ amFk 12 41 = 0 := by decide
theorem f810 : 810 / 64 = 12 ∧ 810 % 64 = 42 ∧ 42 < amFn 12 ∧ amFk 12 42 = 0 := by decide
theorem f811 : 811 / 64 = 12 ∧ 811 % 64 = 43 ∧ 43 < amFn 12 ∧ amFk 12 43 = 0 := by decide
theorem f812 : 812 / 64 = 12 ∧ 812 % 64 = 44 ∧ 44 < amFn 12 ∧ amFk 12 44 = 2 := by decide
theorem f813 : 813 / 64 = 12 ∧ 813 % 64 = 45 ∧ 45 < amFn 12 ∧ amFk 12 45 = 0 := by decide
theorem f814 : 814 / 64 = 12 ∧ 814 % 64 = 46 ∧ 46 < amFn 12 ∧ amFk 12 46 = 0 := by decide
theorem f815 : 815 / 64 = 12 ∧ 815 % 64 = 47 ∧ 47 < amFn 12 ∧ amFk 12 47 = 2 := by decide
theorem f816 : 816 / 64 = 12 ∧ 816 % 64 = 48 ∧ 48 < amFn 12 ∧ amFk 12 48 = 2 := by decide
theorem amGi_of {op c k : Nat} {t : Nat} (h : op / 64 = c ∧ op % 64 = k ∧ k < amFn c ∧ amFk c k = t) (ht : t = 0 ∨ t = 3) : op / 64 = c ∧ op % 64 = k ∧ k < amFn c ∧ (amFk c k = 0 ∨ amFk c k = 3) := ⟨h.1, h.2.1, h.2.2.1, by rw [h.2.2.2]; exact ht⟩
theorem rt0 : amRt 0 = some .boolean := rfl
theorem rt1 : amRt 1 = some .int := rfl
theorem rt2 : amRt 2 = none := rfl
theorem rt3 : amRt 3 = some .long := rfl
theorem rt4 : amRt 4 = none := rfl
theorem rt5 : amRt 5 = some .int := rfl
theorem rt6 : amRt 6 = some .long := rfl
theorem rt7 : amRt 7 = none := rfl
theorem rt8 : amRt 8 = none := rfl
theorem rt9 : amRt 9 = some .boolean := rfl
theorem rt10 : amRt 10 = some .long := rfl
theorem rt11 : amRt 11 = some .int := rfl
theorem rt12 : amRt 12 = none := rfl
theorem rt13 : amRt 13 = none := rfl
theorem rt14 : amRt 14 = none := rfl
theorem rt15 : amRt 15 = none := rfl
theorem rt16 : amRt 16 = none := rfl
theorem rt17 : amRt 17 = some .boolean := rfl
theorem rt18 : amRt 18 = some .boolean := rfl
theorem rt19 : amRt 19 = none := rfl
theorem rt20 : amRt 20 = some .long := rfl
theorem rt21 : amRt 21 = some .int := rfl
theorem rt22 : amRt 22 = some .int := rfl
theorem rt23 : amRt 23 = some .int := rfl
theorem rt24 : amRt 24 = none := rfl
theorem rt25 : amRt 25 = some (.object "RootFence$Poly") := rfl
theorem rt26 : amRt 26 = some .boolean := rfl
theorem rt27 : amRt 27 = some .boolean := rfl
theorem rt28 : amRt 28 = none := rfl
theorem rt29 : amRt 29 = some .boolean := rfl
theorem rt30 : amRt 30 = some .boolean := rfl
theorem rt31 : amRt 31 = some .boolean := rfl
theorem rt32 : amRt 32 = some .int := rfl
theorem rt33 : amRt 33 = some (.object "RootFence$Poly") := rfl
theorem rt34 : amRt 34 = some .int := rfl
theorem rt35 : amRt 35 = some .int := rfl
theorem rt36 : amRt 36 = some .int := rfl
theorem rt37 : amRt 37 = some .int := rfl
theorem rt38 : amRt 38 = some .int := rfl
theorem rt39 : amRt 39 = some .int := rfl
theorem rt40 : amRt 40 = some .boolean := rfl
theorem rt41 : amRt 41 = some .int := rfl
theorem rt42 : amRt 42 = some .int := rfl
theorem rt43 : amRt 43 = none := rfl
theorem rt44 : amRt 44 = some .boolean := rfl
theorem rt45 : amRt 45 = some (.object "RootFence$Poly") := rfl
theorem rt46 : amRt 46 = some .boolean := rfl
theorem rt47 : amRt 47 = none := rfl
theorem rt48 : amRt 48 = some .boolean := rfl
theorem rt49 : amRt 49 = none := rfl
theorem rt50 : amRt 50 = none := rfl
theorem rt51 : amRt 51 = none := rfl
theorem rt52 : amRt 52 = none := rfl
theorem rt53 : amRt 53 = some .int := rfl
theorem rt54 : amRt 54 = some .boolean := rfl
theorem rt55 : amRt 55 = some (.object "RootFence$Poly") := rfl
theorem rt56 : amRt 56 = some .int := rfl
theorem rt57 : amRt 57 = none := rfl
theorem rt58 : amRt 58 = some .int := rfl
theorem rt59 : amRt 59 = none := rfl
theorem rt60 : amRt 60 = none := rfl
theorem rt61 : amRt 61 = some .boolean := rfl
theorem rt62 : amRt 62 = some .boolean := rfl
theorem rt63 : amRt 63 = some .boolean := rfl
theorem rt64 : amRt 64 = some .int := rfl
theorem rt65 : amRt 65 = some .int := rfl
theorem rt66 : amRt 66 = some .int := rfl
theorem rt67 : amRt 67 = some .int := rfl
theorem rt68 : amRt 68 = some .int := rfl
theorem rt69 : amRt 69 = some .boolean := rfl
theorem rt70 : amRt 70 = some .int := rfl
theorem rt71 : amRt 71 = some .int := rfl
theorem rt72 : amRt 72 = none := rfl
theorem rt73 : amRt 73 = some .int := rfl
theorem rt74 : amRt 74 = some .int := rfl
theorem rt75 : amRt 75 = some .int := rfl
theorem rt76 : amRt 76 = none := rfl
theorem rt77 : amRt 77 = none := rfl
theorem rt78 : amRt 78 = none := rfl
theorem rt79 : amRt 79 = none := rfl
theorem rt80 : amRt 80 = some .int := rfl
theorem rt81 : amRt 81 = some .boolean := rfl
theorem rt82 : amRt 82 = none := rfl
theorem rt83 : amRt 83 = some .int := rfl
theorem rt84 : amRt 84 = some .int := rfl
theorem rt85 : amRt 85 = some .int := rfl
theorem rt86 : amRt 86 = some (.object "RootFence$Poly") := rfl
theorem rt87 : amRt 87 = some .int := rfl
theorem rt88 : amRt 88 = some .int := rfl
theorem rt89 : amRt 89 = some .int := rfl
theorem rt90 : amRt 90 = some (.object "java/lang/String") := rfl
theorem rt91 : amRt 91 = some .int := rfl
theorem rt92 : amRt 92 = some .int := rfl
theorem rt93 : amRt 93 = some .int := rfl
theorem rt94 : amRt 94 = some .int := rfl
theorem rt95 : amRt 95 = some .boolean := rfl
theorem rt96 : amRt 96 = some .int := rfl
theorem rt97 : amRt 97 = none := rfl
theorem rt98 : amRt 98 = some .int := rfl
theorem rt99 : amRt 99 = some .int := rfl
theorem rt100 : amRt 100 = none := rfl
theorem rt101 : amRt 101 = none := rfl
theorem rt102 : amRt 102 = none := rfl
theorem rt103 : amRt 103 = none := rfl
theorem rt104 : amRt 104 = none := rfl
theorem rt105 : amRt 105 = some .boolean := rfl
theorem rt106 : amRt 106 = some .int := rfl
theorem rt107 : amRt 107 = none := rfl
theorem rt108 : amRt 108 = some .int := rfl
theorem rt109 : amRt 109 = none := rfl
theorem rt110 : amRt 110 = none := rfl
theorem rt111 : amRt 111 = some .int := rfl
theorem rt112 : amRt 112 = some .int := rfl
theorem rt113 : amRt 113 = some .int := rfl
theorem rt114 : amRt 114 = some .long := rfl
theorem rt115 : amRt 115 = some .int := rfl
theorem rt116 : amRt 116 = some .long := rfl
theorem rt117 : amRt 117 = some .long := rfl
theorem rt118 : amRt 118 = some .int := rfl
theorem rt119 : amRt 119 = some .int := rfl
theorem rt120 : amRt 120 = some .int := rfl
theorem rt121 : amRt 121 = some .int := rfl
theorem rt122 : amRt 122 = some .long := rfl
theorem rt123 : amRt 123 = some .int := rfl
theorem rt124 : amRt 124 = some .int := rfl
theorem rt125 : amRt 125 = some .long := rfl
theorem rt126 : amRt 126 = some .long := rfl
theorem rt127 : amRt 127 = some .long := rfl
theorem rt128 : amRt 128 = some .long := rfl
theorem rt129 : amRt 129 = some .int := rfl
theorem rt130 : amRt 130 = some .int := rfl
theorem rt131 : amRt 131 = some .int := rfl
theorem rt132 : amRt 132 = some .int := rfl
theorem rt133 : amRt 133 = some .int := rfl
theorem rt134 : amRt 134 = some .int := rfl
theorem rt135 : amRt 135 = some .int := rfl
theorem rt136 : amRt 136 = some .int := rfl
theorem rt137 : amRt 137 = some .long := rfl
theorem rt138 : amRt 138 = some .int := rfl
theorem rt139 : amRt 139 = some .int := rfl
theorem rt140 : amRt 140 = some .int := rfl
theorem rt141 : amRt 141 = some .int := rfl
theorem rt142 : amRt 142 = some .int := rfl
theorem rt143 : amRt 143 = some .boolean := rfl
theorem rt144 : amRt 144 = some .boolean := rfl
theorem rt145 : amRt 145 = some .boolean := rfl
theorem rt146 : amRt 146 = some .boolean := rfl
theorem rt147 : amRt 147 = some .long := rfl
theorem rt148 : amRt 148 = some .boolean := rfl
theorem rt149 : amRt 149 = some .long := rfl
theorem rt150 : amRt 150 = some .boolean := rfl
theorem rt151 : amRt 151 = some .long := rfl
theorem rt152 : amRt 152 = some .boolean := rfl
theorem rt153 : amRt 153 = some .long := rfl
theorem rt154 : amRt 154 = some .int := rfl
theorem rt155 : amRt 155 = some .long := rfl
theorem rt156 : amRt 156 = none := rfl
theorem rt157 : amRt 157 = some .boolean := rfl
theorem rt158 : amRt 158 = some .int := rfl
theorem rt159 : amRt 159 = some .boolean := rfl
theorem rt160 : amRt 160 = some .int := rfl
theorem rt161 : amRt 161 = some .int := rfl
theorem rt162 : amRt 162 = some .long := rfl
theorem rt163 : amRt 163 = none := rfl
theorem rt164 : amRt 164 = some .int := rfl
theorem rt165 : amRt 165 = some .int := rfl
theorem rt166 : amRt 166 = some .int := rfl
theorem rt167 : amRt 167 = some .boolean := rfl
theorem rt168 : amRt 168 = some .long := rfl
theorem rt169 : amRt 169 = some .long := rfl
theorem rt170 : amRt 170 = some .long := rfl
theorem rt171 : amRt 171 = none := rfl
theorem rt172 : amRt 172 = none := rfl
theorem rt173 : amRt 173 = some .int := rfl
theorem rt174 : amRt 174 = some .long := rfl
theorem rt175 : amRt 175 = none := rfl
theorem rt176 : amRt 176 = none := rfl
theorem rt177 : amRt 177 = none := rfl
theorem rt178 : amRt 178 = none := rfl
theorem rt179 : amRt 179 = none := rfl
theorem rt180 : amRt 180 = none := rfl
theorem rt181 : amRt 181 = none := rfl
theorem rt182 : amRt 182 = none := rfl
theorem rt183 : amRt 183 = none := rfl
theorem rt184 : amRt 184 = none := rfl
theorem rt185 : amRt 185 = none := rfl
theorem rt186 : amRt 186 = some .int := rfl
theorem rt187 : amRt 187 = some .int := rfl
theorem rt188 : amRt 188 = some .int := rfl
theorem rt189 : amRt 189 = none := rfl
theorem rt190 : amRt 190 = some .long := rfl
theorem rt191 : amRt 191 = some .int := rfl
theorem rt192 : amRt 192 = some .int := rfl
theorem rt193 : amRt 193 = some .int := rfl
theorem rt194 : amRt 194 = some .int := rfl
theorem rt195 : amRt 195 = some .int := rfl
theorem rt196 : amRt 196 = none := rfl
theorem rt197 : amRt 197 = some .boolean := rfl
theorem rt198 : amRt 198 = some .long := rfl
theorem rt199 : amRt 199 = some .int := rfl
theorem rt200 : amRt 200 = none := rfl
theorem rt201 : amRt 201 = some .int := rfl
theorem rt202 : amRt 202 = none := rfl
theorem rt203 : amRt 203 = some .int := rfl
theorem rt204 : amRt 204 = some .long := rfl
theorem rt205 : amRt 205 = none := rfl
theorem rt206 : amRt 206 = some .long := rfl
theorem rt207 : amRt 207 = none := rfl
theorem rt208 : amRt 208 = some .boolean := rfl
theorem rt209 : amRt 209 = some .long := rfl
theorem rt210 : amRt 210 = none := rfl
theorem rt211 : amRt 211 = none := rfl
theorem rt212 : amRt 212 = some .long := rfl
theorem rt213 : amRt 213 = some .boolean := rfl
theorem rt214 : amRt 214 = some .boolean := rfl
theorem rt215 : amRt 215 = some .boolean := rfl
theorem rt216 : amRt 216 = none := rfl
theorem rt217 : amRt 217 = none := rfl
theorem rt218 : amRt 218 = none := rfl
theorem rt219 : amRt 219 = some .int := rfl
theorem rt220 : amRt 220 = some .int := rfl
theorem rt221 : amRt 221 = some .int := rfl
theorem rt222 : amRt 222 = none := rfl
theorem rt223 : amRt 223 = none := rfl
theorem rt224 : amRt 224 = none := rfl
theorem rt225 : amRt 225 = some .boolean := rfl
theorem rt226 : amRt 226 = some .boolean := rfl
theorem rt227 : amRt 227 = some .int := rfl
theorem rt228 : amRt 228 = some .int := rfl
theorem rt229 : amRt 229 = none := rfl
theorem rt230 : amRt 230 = some .int := rfl
theorem rt231 : amRt 231 = some .int := rfl
theorem rt232 : amRt 232 = none := rfl
theorem rt233 : amRt 233 = none := rfl
theorem rt234 : amRt 234 = some .int := rfl
theorem rt235 : amRt 235 = some .int := rfl
theorem rt236 : amRt 236 = some .boolean := rfl
theorem rt237 : amRt 237 = some .int := rfl
theorem rt238 : amRt 238 = some .int := rfl
theorem rt239 : amRt 239 = some .int := rfl
theorem rt240 : amRt 240 = some .boolean := rfl
theorem rt241 : amRt 241 = some .int := rfl
theorem rt242 : amRt 242 = some .int := rfl
theorem rt243 : amRt 243 = some .long := rfl
theorem rt244 : amRt 244 = some .int := rfl
theorem rt245 : amRt 245 = some .int := rfl
theorem rt246 : amRt 246 = some .int := rfl
theorem rt247 : amRt 247 = some .int := rfl
theorem rt248 : amRt 248 = none := rfl
theorem rt249 : amRt 249 = none := rfl
theorem rt250 : amRt 250 = some .int := rfl
theorem c0_110 : (0 < 110 ∧ 110 < 900) ∧ amSt? 110 = false ∧ amNa 110 = 1 ∧ amRk 110 < amRk 0 := by decide +kernel
theorem c0_111 : (0 < 111 ∧ 111 < 900) ∧ amSt? 111 = false ∧ amNa 111 = 6 ∧ amRk 111 < amRk 0 := by decide +kernel
theorem c0_112 : (0 < 112 ∧ 112 < 900) ∧ amSt? 112 = false ∧ amNa 112 = 4 ∧ amRk 112 < amRk 0 := by decide +kernel
theorem c0_113 : (0 < 113 ∧ 113 < 900) ∧ amSt? 113 = false ∧ amNa 113 = 1 ∧ amRk 113 < amRk 0 := by decide +kernel
theorem c0_114 : (0 < 114 ∧ 114 < 900) ∧ amSt? 114 = false ∧ amNa 114 = 3 ∧ amRk 114 < amRk 0 := by decide +kernel
theorem c0_115 : (0 < 115 ∧ 115 < 900) ∧ amSt? 115 = false ∧ amNa 115 = 3 ∧ amRk 115 < amRk 0 := by decide +kernel
theorem c0_116 : (0 < 116 ∧ 116 < 900) ∧ amSt? 116 = false ∧ amNa 116 = 4 ∧ amRk 116 < amRk 0 := by decide +kernel
theorem c0_117 : (0 < 117 ∧ 117 < 900) ∧ amSt? 117 = false ∧ amNa 117 = 4 ∧ amRk 117 < amRk 0 := by decide +kernel
theorem c0_118 : (0 < 118 ∧ 118 < 900) ∧ amSt? 118 = false ∧ amNa 118 = 4 ∧ amRk 118 < amRk 0 := by decide +kernel
theorem c0_119 : (0 < 119 ∧ 119 < 900) ∧ amSt? 119 = false ∧ amNa 119 = 2 ∧ amRk 119 < amRk 0 := by decide +kernel
theorem c0_120 : (0 < 120 ∧ 120 < 900) ∧ amSt? 120 = false ∧ amNa 120 = 6 ∧ amRk 120 < amRk 0 := by decide +kernel
theorem c0_121 : (0 < 121 ∧ 121 < 900) ∧ amSt? 121 = false ∧ amNa 121 = 2 ∧ amRk 121 < amRk 0 := by decide +kernel
theorem c0_122 : (0 < 122 ∧ 122 < 900) ∧ amSt? 122 = false ∧ amNa 122 = 5 ∧ amRk 122 < amRk 0 := by decide +kernel
theorem c0_123 : (0 < 123 ∧ 123 < 900) ∧ amSt? 123 = false ∧ amNa 123 = 3 ∧ amRk 123 < amRk 0 := by decide +kernel
theorem c0_124 : (0 < 124 ∧ 124 < 900) ∧ amSt? 124 = false ∧ amNa 124 = 3 ∧ amRk 124 < amRk 0 := by decide +kernel
theorem c0_125 : (0 < 125 ∧ 125 < 900) ∧ amSt? 125 = false ∧ amNa 125 = 4 ∧ amRk 125 < amRk 0 := by decide +kernel
theorem c0_126 : (0 < 126 ∧ 126 < 900) ∧ amSt? 126 = false ∧ amNa 126 = 3 ∧ amRk 126 < amRk 0 := by decide +kernel
theorem c0_127 : (0 < 127 ∧ 127 < 900) ∧ amSt? 127 = false ∧ amNa 127 = 5 ∧ amRk 127 < amRk 0 := by decide +kernel
theorem c0_128 : (0 < 128 ∧ 128 < 900) ∧ amSt? 128 = false ∧ amNa 128 = 4 ∧ amRk 128 < amRk 0 := by decide +kernel
theorem c0_129 : (0 < 129 ∧ 129 < 900) ∧ amSt? 129 = false ∧ amNa 129 = 2 ∧ amRk 129 < amRk 0 := by decide +kernel
theorem c0_130 : (0 < 130 ∧ 130 < 900) ∧ amSt? 130 = false ∧ amNa 130 = 1 ∧ amRk 130 < amRk 0 := by decide +kernel
theorem c0_131 : (0 < 131 ∧ 131 < 900) ∧ amSt? 131 = false ∧ amNa 131 = 2 ∧ amRk 131 < amRk 0 := by decide +kernel
theorem c0_132 : (0 < 132 ∧ 132 < 900) ∧ amSt? 132 = false ∧ amNa 132 = 2 ∧ amRk 132 < amRk 0 := by decide +kernel
theorem c0_133 : (0 < 133 ∧ 133 < 900) ∧ amSt? 133 = false ∧ amNa 133 = 4 ∧ amRk 133 < amRk 0 := by decide +kernel
theorem c0_134 : (0 < 134 ∧ 134 < 900) ∧ amSt? 134 = false ∧ amNa 134 = 5 ∧ amRk 134 < amRk 0 := by decide +kernel
theorem c0_135 : (0 < 135 ∧ 135 < 900) ∧ amSt? 135 = false ∧ amNa 135 = 3 ∧ amRk 135 < amRk 0 := by decide +kernel
theorem c0_136 : (0 < 136 ∧ 136 < 900) ∧ amSt? 136 = false ∧ amNa 136 = 4 ∧ amRk 136 < amRk 0 := by decide +kernel
theorem c0_137 : (0 < 137 ∧ 137 < 900) ∧ amSt? 137 = false ∧ amNa 137 = 3 ∧ amRk 137 < amRk 0 := by decide +kernel
theorem c0_138 : (0 < 138 ∧ 138 < 900) ∧ amSt? 138 = false ∧ amNa 138 = 4 ∧ amRk 138 < amRk 0 := by decide +kernel
theorem c0_139 : (0 < 139 ∧ 139 < 900) ∧ amSt? 139 = false ∧ amNa 139 = 1 ∧ amRk 139 < amRk 0 := by decide +kernel
theorem c0_140 : (0 < 140 ∧ 140 < 900) ∧ amSt? 140 = false ∧ amNa 140 = 1 ∧ amRk 140 < amRk 0 := by decide +kernel
theorem c0_141 : (0 < 141 ∧ 141 < 900) ∧ amSt? 141 = false ∧ amNa 141 = 2 ∧ amRk 141 < amRk 0 := by decide +kernel
theorem c0_156 : (0 < 156 ∧ 156 < 900) ∧ amSt? 156 = false ∧ amNa 156 = 1 ∧ amRk 156 < amRk 0 := by decide +kernel
theorem c0_160 : (0 < 160 ∧ 160 < 900) ∧ amSt? 160 = false ∧ amNa 160 = 6 ∧ amRk 160 < amRk 0 := by decide +kernel
theorem c0_161 : (0 < 161 ∧ 161 < 900) ∧ amSt? 161 = false ∧ amNa 161 = 1 ∧ amRk 161 < amRk 0 := by decide +kernel
theorem c0_162 : (0 < 162 ∧ 162 < 900) ∧ amSt? 162 = false ∧ amNa 162 = 3 ∧ amRk 162 < amRk 0 := by decide +kernel
theorem c0_166 : (0 < 166 ∧ 166 < 900) ∧ amSt? 166 = false ∧ amNa 166 = 3 ∧ amRk 166 < amRk 0 := by decide +kernel
theorem c0_170 : (0 < 170 ∧ 170 < 900) ∧ amSt? 170 = false ∧ amNa 170 = 4 ∧ amRk 170 < amRk 0 := by decide +kernel
theorem c0_190 : (0 < 190 ∧ 190 < 900) ∧ amSt? 190 = false ∧ amNa 190 = 4 ∧ amRk 190 < amRk 0 := by decide +kernel
theorem c0_191 : (0 < 191 ∧ 191 < 900) ∧ amSt? 191 = false ∧ amNa 191 = 4 ∧ amRk 191 < amRk 0 := by decide +kernel
theorem c0_192 : (0 < 192 ∧ 192 < 900) ∧ amSt? 192 = false ∧ amNa 192 = 2 ∧ amRk 192 < amRk 0 := by decide +kernel
theorem c0_193 : (0 < 193 ∧ 193 < 900) ∧ amSt? 193 = false ∧ amNa 193 = 6 ∧ amRk 193 < amRk 0 := by decide +kernel
theorem c0_195 : (0 < 195 ∧ 195 < 900) ∧ amSt? 195 = false ∧ amNa 195 = 2 ∧ amRk 195 < amRk 0 := by decide +kernel
theorem c0_198 : (0 < 198 ∧ 198 < 900) ∧ amSt? 198 = false ∧ amNa 198 = 5 ∧ amRk 198 < amRk 0 := by decide +kernel
theorem c0_201 : (0 < 201 ∧ 201 < 900) ∧ amSt? 201 = false ∧ amNa 201 = 3 ∧ amRk 201 < amRk 0 := by decide +kernel
theorem c0_203 : (0 < 203 ∧ 203 < 900) ∧ amSt? 203 = false ∧ amNa 203 = 3 ∧ amRk 203 < amRk 0 := by decide +kernel
theorem c0_204 : (0 < 204 ∧ 204 < 900) ∧ amSt? 204 = false ∧ amNa 204 = 4 ∧ amRk 204 < amRk 0 := by decide +kernel
theorem c0_206 : (0 < 206 ∧ 206 < 900) ∧ amSt? 206 = false ∧ amNa 206 = 3 ∧ amRk 206 < amRk 0 := by decide +kernel
theorem c0_209 : (0 < 209 ∧ 209 < 900) ∧ amSt? 209 = false ∧ amNa 209 = 5 ∧ amRk 209 < amRk 0 := by decide +kernel
theorem c0_212 : (0 < 212 ∧ 212 < 900) ∧ amSt? 212 = false ∧ amNa 212 = 4 ∧ amRk 212 < amRk 0 := by decide +kernel
theorem c0_219 : (0 < 219 ∧ 219 < 900) ∧ amSt? 219 = false ∧ amNa 219 = 4 ∧ amRk 219 < amRk 0 := by decide +kernel
theorem c0_220 : (0 < 220 ∧ 220 < 900) ∧ amSt? 220 = false ∧ amNa 220 = 2 ∧ amRk 220 < amRk 0 := by decide +kernel
theorem c0_231 : (0 < 231 ∧ 231 < 900) ∧ amSt? 231 = false ∧ amNa 231 = 1 ∧ amRk 231 < amRk 0 := by decide +kernel
theorem c0_234 : (0 < 234 ∧ 234 < 900) ∧ amSt? 234 = false ∧ amNa 234 = 2 ∧ amRk 234 < amRk 0 := by decide +kernel
theorem c0_235 : (0 < 235 ∧ 235 < 900) ∧ amSt? 235 = false ∧ amNa 235 = 2 ∧ amRk 235 < amRk 0 := by decide +kernel
theorem c0_237 : (0 < 237 ∧ 237 < 900) ∧ amSt? 237 = false ∧ amNa 237 = 4 ∧ amRk 237 < amRk 0 := by decide +kernel
theorem c0_239 : (0 < 239 ∧ 239 < 900) ∧ amSt? 239 = false ∧ amNa 239 = 5 ∧ amRk 239 < amRk 0 := by decide +kernel
theorem c0_241 : (0 < 241 ∧ 241 < 900) ∧ amSt? 241 = false ∧ amNa 241 = 3 ∧ amRk 241 < amRk 0 := by decide +kernel
theorem c0_242 : (0 < 242 ∧ 242 < 900) ∧ amSt? 242 = false ∧ amNa 242 = 4 ∧ amRk 242 < amRk 0 := by decide +kernel
theorem c0_243 : (0 < 243 ∧ 243 < 900) ∧ amSt? 243 = false ∧ amNa 243 = 3 ∧ amRk 243 < amRk 0 := by decide +kernel
theorem c0_244 : (0 < 244 ∧ 244 < 900) ∧ amSt? 244 = false ∧ amNa 244 = 4 ∧ amRk 244 < amRk 0 := by decide +kernel
theorem c0_245 : (0 < 245 ∧ 245 < 900) ∧ amSt? 245 = false ∧ amNa 245 = 1 ∧ amRk 245 < amRk 0 := by decide +kernel
theorem c0_246 : (0 < 246 ∧ 246 < 900) ∧ amSt? 246 = false ∧ amNa 246 = 1 ∧ amRk 246 < amRk 0 := by decide +kernel
theorem c0_247 : (0 < 247 ∧ 247 < 900) ∧ amSt? 247 = false ∧ amNa 247 = 2 ∧ amRk 247 < amRk 0 := by decide +kernel
theorem c6_3 : (0 < 3 ∧ 3 < 900) ∧ amSt? 3 = false ∧ amNa 3 = 2 ∧ amRk 3 < amRk 6 := by decide +kernel
theorem c6_5 : (0 < 5 ∧ 5 < 900) ∧ amSt? 5 = false ∧ amNa 5 = 1 ∧ amRk 5 < amRk 6 := by decide +kernel
theorem c11_1 : (0 < 1 ∧ 1 < 900) ∧ amSt? 1 = true ∧ amNa 1 = 1 ∧ amRk 1 < amRk 11 := by decide +kernel
theorem c13_3 : (0 < 3 ∧ 3 < 900) ∧ amSt? 3 = false ∧ amNa 3 = 2 ∧ amRk 3 < amRk 13 := by decide +kernel
theorem c13_5 : (0 < 5 ∧ 5 < 900) ∧ amSt? 5 = false ∧ amNa 5 = 1 ∧ amRk 5 < amRk 13 := by decide +kernel
theorem c13_12 : (0 < 12 ∧ 12 < 900) ∧ amSt? 12 = false ∧ amNa 12 = 1 ∧ amRk 12 < amRk 13 := by decide +kernel
theorem c15_7 : (0 < 7 ∧ 7 < 900) ∧ amSt? 7 = false ∧ amNa 7 = 1 ∧ amRk 7 < amRk 15 := by decide +kernel
theorem c18_5 : (0 < 5 ∧ 5 < 900) ∧ amSt? 5 = false ∧ amNa 5 = 1 ∧ amRk 5 < amRk 18 := by decide +kernel
theorem c18_17 : (0 < 17 ∧ 17 < 900) ∧ amSt? 17 = false ∧ amNa 17 = 1 ∧ amRk 17 < amRk 18 := by decide +kernel
theorem c19_3 : (0 < 3 ∧ 3 < 900) ∧ amSt? 3 = false ∧ amNa 3 = 2 ∧ amRk 3 < amRk 19 := by decide +kernel
theorem c19_5 : (0 < 5 ∧ 5 < 900) ∧ amSt? 5 = false ∧ amNa 5 = 1 ∧ amRk 5 < amRk 19 := by decide +kernel
theorem c21_1 : (0 < 1 ∧ 1 < 900) ∧ amSt? 1 = true ∧ amNa 1 = 1 ∧ amRk 1 < amRk 21 := by decide +kernel
theorem c21_20 : (0 < 20 ∧ 20 < 900) ∧ amSt? 20 = false ∧ amNa 20 = 3 ∧ amRk 20 < amRk 21 := by decide +kernel
theorem c22_1 : (0 < 1 ∧ 1 < 900) ∧ amSt? 1 = true ∧ amNa 1 = 1 ∧ amRk 1 < amRk 22 := by decide +kernel
theorem c22_3 : (0 < 3 ∧ 3 < 900) ∧ amSt? 3 = false ∧ amNa 3 = 2 ∧ amRk 3 < amRk 22 := by decide +kernel
theorem c22_5 : (0 < 5 ∧ 5 < 900) ∧ amSt? 5 = false ∧ amNa 5 = 1 ∧ amRk 5 < amRk 22 := by decide +kernel
theorem c23_1 : (0 < 1 ∧ 1 < 900) ∧ amSt? 1 = true ∧ amNa 1 = 1 ∧ amRk 1 < amRk 23 := by decide +kernel
theorem c23_3 : (0 < 3 ∧ 3 < 900) ∧ amSt? 3 = false ∧ amNa 3 = 2 ∧ amRk 3 < amRk 23 := by decide +kernel
theorem c23_5 : (0 < 5 ∧ 5 < 900) ∧ amSt? 5 = false ∧ amNa 5 = 1 ∧ amRk 5 < amRk 23 := by decide +kernel
theorem c24_2 : (0 < 2 ∧ 2 < 900) ∧ amSt? 2 = false ∧ amNa 2 = 1 ∧ amRk 2 < amRk 24 := by decide +kernel
theorem c26_5 : (0 < 5 ∧ 5 < 900) ∧ amSt? 5 = false ∧ amNa 5 = 1 ∧ amRk 5 < amRk 26 := by decide +kernel
theorem c26_8 : (0 < 8 ∧ 8 < 900) ∧ amSt? 8 = false ∧ amNa 8 = 2 ∧ amRk 8 < amRk 26 := by decide +kernel
theorem c26_13 : (0 < 13 ∧ 13 < 900) ∧ amSt? 13 = false ∧ amNa 13 = 1 ∧ amRk 13 < amRk 26 := by decide +kernel
theorem c26_17 : (0 < 17 ∧ 17 < 900) ∧ amSt? 17 = false ∧ amNa 17 = 1 ∧ amRk 17 < amRk 26 := by decide +kernel
theorem c26_18 : (0 < 18 ∧ 18 < 900) ∧ amSt? 18 = false ∧ amNa 18 = 2 ∧ amRk 18 < amRk 26 := by decide +kernel
theorem c27_5 : (0 < 5 ∧ 5 < 900) ∧ amSt? 5 = false ∧ amNa 5 = 1 ∧ amRk 5 < amRk 27 := by decide +kernel
theorem c27_8 : (0 < 8 ∧ 8 < 900) ∧ amSt? 8 = false ∧ amNa 8 = 2 ∧ amRk 8 < amRk 27 := by decide +kernel
theorem c27_13 : (0 < 13 ∧ 13 < 900) ∧ amSt? 13 = false ∧ amNa 13 = 1 ∧ amRk 13 < amRk 27 := by decide +kernel
theorem c27_16 : (0 < 16 ∧ 16 < 900) ∧ amSt? 16 = false ∧ amNa 16 = 1 ∧ amRk 16 < amRk 27 := by decide +kernel
theorem c27_17 : (0 < 17 ∧ 17 < 900) ∧ amSt? 17 = false ∧ amNa 17 = 1 ∧ amRk 17 < amRk 27 := by decide +kernel
theorem c27_19 : (0 < 19 ∧ 19 < 900) ∧ amSt? 19 = false ∧ amNa 19 = 2 ∧ amRk 19 < amRk 27 := by decide +kernel
theorem c27_26 : (0 < 26 ∧ 26 < 900) ∧ amSt? 26 = false ∧ amNa 26 = 3 ∧ amRk 26 < amRk 27 := by decide +kernel
theorem c28_2 : (0 < 2 ∧ 2 < 900) ∧ amSt? 2 = false ∧ amNa 2 = 1 ∧ amRk 2 < amRk 28 := by decide +kernel
theorem c29_8 : (0 < 8 ∧ 8 < 900) ∧ amSt? 8 = false ∧ amNa 8 = 2 ∧ amRk 8 < amRk 29 := by decide +kernel
theorem c29_16 : (0 < 16 ∧ 16 < 900) ∧ amSt? 16 = false ∧ amNa 16 = 1 ∧ amRk 16 < amRk 29 := by decide +kernel
theorem c29_17 : (0 < 17 ∧ 17 < 900) ∧ amSt? 17 = false ∧ amNa 17 = 1 ∧ amRk 17 < amRk 29 := by decide +kernel
theorem c29_27 : (0 < 27 ∧ 27 < 900) ∧ amSt? 27 = false ∧ amNa 27 = 3 ∧ amRk 27 < amRk 29 := by decide +kernel
theorem c29_31 : (0 < 31 ∧ 31 < 900) ∧ amSt? 31 = false ∧ amNa 31 = 1 ∧ amRk 31 < amRk 29 := by decide +kernel
theorem c30_8 : (0 < 8 ∧ 8 < 900) ∧ amSt? 8 = false ∧ amNa 8 = 2 ∧ amRk 8 < amRk 30 := by decide +kernel
theorem c30_15 : (0 < 15 ∧ 15 < 900) ∧ amSt? 15 = false ∧ amNa 15 = 3 ∧ amRk 15 < amRk 30 := by decide +kernel
theorem c30_16 : (0 < 16 ∧ 16 < 900) ∧ amSt? 16 = false ∧ amNa 16 = 1 ∧ amRk 16 < amRk 30 := by decide +kernel
theorem c30_18 : (0 < 18 ∧ 18 < 900) ∧ amSt? 18 = false ∧ amNa 18 = 2 ∧ amRk 18 < amRk 30 := by decide +kernel
theorem c30_27 : (0 < 27 ∧ 27 < 900) ∧ amSt? 27 = false ∧ amNa 27 = 3 ∧ amRk 27 < amRk 30 := by decide +kernel
theorem c30_31 : (0 < 31 ∧ 31 < 900) ∧ amSt? 31 = false ∧ amNa 31 = 1 ∧ amRk 31 < amRk 30 := by decide +kernel
theorem c31_5 : (0 < 5 ∧ 5 < 900) ∧ amSt? 5 = false ∧ amNa 5 = 1 ∧ amRk 5 < amRk 31 := by decide +kernel
theorem c31_8 : (0 < 8 ∧ 8 < 900) ∧ amSt? 8 = false ∧ amNa 8 = 2 ∧ amRk 8 < amRk 31 := by decide +kernel
theorem c31_12 : (0 < 12 ∧ 12 < 900) ∧ amSt? 12 = false ∧ amNa 12 = 1 ∧ amRk 12 < amRk 31 := by decide +kernel
theorem c31_18 : (0 < 18 ∧ 18 < 900) ∧ amSt? 18 = false ∧ amNa 18 = 2 ∧ amRk 18 < amRk 31 := by decide +kernel
theorem c31_35 : (0 < 35 ∧ 35 < 900) ∧ amSt? 35 = false ∧ amNa 35 = 1 ∧ amRk 35 < amRk 31 := by decide +kernel
theorem c31_36 : (0 < 36 ∧ 36 < 900) ∧ amSt? 36 = false ∧ amNa 36 = 1 ∧ amRk 36 < amRk 31 := by decide +kernel
theorem c34_21 : (0 < 21 ∧ 21 < 900) ∧ amSt? 21 = false ∧ amNa 21 = 3 ∧ amRk 21 < amRk 34 := by decide +kernel
theorem c35_23 : (0 < 23 ∧ 23 < 900) ∧ amSt? 23 = false ∧ amNa 23 = 1 ∧ amRk 23 < amRk 35 := by decide +kernel
theorem c36_22 : (0 < 22 ∧ 22 < 900) ∧ amSt? 22 = false ∧ amNa 22 = 1 ∧ amRk 22 < amRk 36 := by decide +kernel
theorem c40_39 : (0 < 39 ∧ 39 < 900) ∧ amSt? 39 = false ∧ amNa 39 = 1 ∧ amRk 39 < amRk 40 := by decide +kernel
theorem c41_34 : (0 < 34 ∧ 34 < 900) ∧ amSt? 34 = false ∧ amNa 34 = 3 ∧ amRk 34 < amRk 41 := by decide +kernel
theorem c42_34 : (0 < 34 ∧ 34 < 900) ∧ amSt? 34 = false ∧ amNa 34 = 3 ∧ amRk 34 < amRk 42 := by decide +kernel
theorem c43_2 : (0 < 2 ∧ 2 < 900) ∧ amSt? 2 = false ∧ amNa 2 = 1 ∧ amRk 2 < amRk 43 := by decide +kernel
theorem c44_4 : (0 < 4 ∧ 4 < 900) ∧ amSt? 4 = false ∧ amNa 4 = 3 ∧ amRk 4 < amRk 44 := by decide +kernel
theorem c44_5 : (0 < 5 ∧ 5 < 900) ∧ amSt? 5 = false ∧ amNa 5 = 1 ∧ amRk 5 < amRk 44 := by decide +kernel
theorem c44_8 : (0 < 8 ∧ 8 < 900) ∧ amSt? 8 = false ∧ amNa 8 = 2 ∧ amRk 8 < amRk 44 := by decide +kernel
theorem c44_13 : (0 < 13 ∧ 13 < 900) ∧ amSt? 13 = false ∧ amNa 13 = 1 ∧ amRk 13 < amRk 44 := by decide +kernel
theorem c44_16 : (0 < 16 ∧ 16 < 900) ∧ amSt? 16 = false ∧ amNa 16 = 1 ∧ amRk 16 < amRk 44 := by decide +kernel
theorem c44_17 : (0 < 17 ∧ 17 < 900) ∧ amSt? 17 = false ∧ amNa 17 = 1 ∧ amRk 17 < amRk 44 := by decide +kernel
theorem c44_25 : (0 < 25 ∧ 25 < 900) ∧ amSt? 25 = false ∧ amNa 25 = 1 ∧ amRk 25 < amRk 44 := by decide +kernel
theorem c44_26 : (0 < 26 ∧ 26 < 900) ∧ amSt? 26 = false ∧ amNa 26 = 3 ∧ amRk 26 < amRk 44 := by decide +kernel
theorem c46_8 : (0 < 8 ∧ 8 < 900) ∧ amSt? 8 = false ∧ amNa 8 = 2 ∧ amRk 8 < amRk 46 := by decide +kernel
theorem c46_17 : (0 < 17 ∧ 17 < 900) ∧ amSt? 17 = false ∧ amNa 17 = 1 ∧ amRk 17 < amRk 46 := by decide +kernel
theorem c46_19 : (0 < 19 ∧ 19 < 900) ∧ amSt? 19 = false ∧ amNa 19 = 2 ∧ amRk 19 < amRk 46 := by decide +kernel
theorem c46_45 : (0 < 45 ∧ 45 < 900) ∧ amSt? 45 = false ∧ amNa 45 = 2 ∧ amRk 45 < amRk 46 := by decide +kernel
theorem c48_8 : (0 < 8 ∧ 8 < 900) ∧ amSt? 8 = false ∧ amNa 8 = 2 ∧ amRk 8 < amRk 48 := by decide +kernel
theorem c48_14 : (0 < 14 ∧ 14 < 900) ∧ amSt? 14 = false ∧ amNa 14 = 3 ∧ amRk 14 < amRk 48 := by decide +kernel
theorem c48_15 : (0 < 15 ∧ 15 < 900) ∧ amSt? 15 = false ∧ amNa 15 = 3 ∧ amRk 15 < amRk 48 := by decide +kernel
theorem c48_16 : (0 < 16 ∧ 16 < 900) ∧ amSt? 16 = false ∧ amNa 16 = 1 ∧ amRk 16 < amRk 48 := by decide +kernel
theorem c48_18 : (0 < 18 ∧ 18 < 900) ∧ amSt? 18 = false ∧ amNa 18 = 2 ∧ amRk 18 < amRk 48 := by decide +kernel
theorem c48_25 : (0 < 25 ∧ 25 < 900) ∧ amSt? 25 = false ∧ amNa 25 = 1 ∧ amRk 25 < amRk 48 := by decide +kernel
theorem c48_26 : (0 < 26 ∧ 26 < 900) ∧ amSt? 26 = false ∧ amNa 26 = 3 ∧ amRk 26 < amRk 48 := by decide +kernel
theorem c48_27 : (0 < 27 ∧ 27 < 900) ∧ amSt? 27 = false ∧ amNa 27 = 3 ∧ amRk 27 < amRk 48 := by decide +kernel
theorem c48_44 : (0 < 44 ∧ 44 < 900) ∧ amSt? 44 = false ∧ amNa 44 = 2 ∧ amRk 44 < amRk 48 := by decide +kernel
theorem c48_46 : (0 < 46 ∧ 46 < 900) ∧ amSt? 46 = false ∧ amNa 46 = 3 ∧ amRk 46 < amRk 48 := by decide +kernel
theorem c48_49 : (0 < 49 ∧ 49 < 900) ∧ amSt? 49 = true ∧ amNa 49 = 2 ∧ amRk 49 < amRk 48 := by decide +kernel
theorem c48_50 : (0 < 50 ∧ 50 < 900) ∧ amSt? 50 = true ∧ amNa 50 = 2 ∧ amRk 50 < amRk 48 := by decide +kernel
theorem c48_51 : (0 < 51 ∧ 51 < 900) ∧ amSt? 51 = true ∧ amNa 51 = 2 ∧ amRk 51 < amRk 48 := by decide +kernel
theorem c49_3 : (0 < 3 ∧ 3 < 900) ∧ amSt? 3 = false ∧ amNa 3 = 2 ∧ amRk 3 < amRk 49 := by decide +kernel
theorem c49_4 : (0 < 4 ∧ 4 < 900) ∧ amSt? 4 = false ∧ amNa 4 = 3 ∧ amRk 4 < amRk 49 := by decide +kernel
theorem c50_3 : (0 < 3 ∧ 3 < 900) ∧ amSt? 3 = false ∧ amNa 3 = 2 ∧ amRk 3 < amRk 50 := by decide +kernel
theorem c50_4 : (0 < 4 ∧ 4 < 900) ∧ amSt? 4 = false ∧ amNa 4 = 3 ∧ amRk 4 < amRk 50 := by decide +kernel
theorem c51_3 : (0 < 3 ∧ 3 < 900) ∧ amSt? 3 = false ∧ amNa 3 = 2 ∧ amRk 3 < amRk 51 := by decide +kernel
theorem c51_4 : (0 < 4 ∧ 4 < 900) ∧ amSt? 4 = false ∧ amNa 4 = 3 ∧ amRk 4 < amRk 51 := by decide +kernel
theorem c51_5 : (0 < 5 ∧ 5 < 900) ∧ amSt? 5 = false ∧ amNa 5 = 1 ∧ amRk 5 < amRk 51 := by decide +kernel
theorem c52_2 : (0 < 2 ∧ 2 < 900) ∧ amSt? 2 = false ∧ amNa 2 = 1 ∧ amRk 2 < amRk 52 := by decide +kernel
theorem c56_8 : (0 < 8 ∧ 8 < 900) ∧ amSt? 8 = false ∧ amNa 8 = 2 ∧ amRk 8 < amRk 56 := by decide +kernel
theorem c56_54 : (0 < 54 ∧ 54 < 900) ∧ amSt? 54 = false ∧ amNa 54 = 1 ∧ amRk 54 < amRk 56 := by decide +kernel
theorem c58_9 : (0 < 9 ∧ 9 < 900) ∧ amSt? 9 = false ∧ amNa 9 = 2 ∧ amRk 9 < amRk 58 := by decide +kernel
theorem c59_8 : (0 < 8 ∧ 8 < 900) ∧ amSt? 8 = false ∧ amNa 8 = 2 ∧ amRk 8 < amRk 59 := by decide +kernel
theorem c61_37 : (0 < 37 ∧ 37 < 900) ∧ amSt? 37 = false ∧ amNa 37 = 1 ∧ amRk 37 < amRk 61 := by decide +kernel
theorem c61_38 : (0 < 38 ∧ 38 < 900) ∧ amSt? 38 = false ∧ amNa 38 = 1 ∧ amRk 38 < amRk 61 := by decide +kernel
theorem c61_42 : (0 < 42 ∧ 42 < 900) ∧ amSt? 42 = false ∧ amNa 42 = 1 ∧ amRk 42 < amRk 61 := by decide +kernel
theorem c61_62 : (0 < 62 ∧ 62 < 900) ∧ amSt? 62 = false ∧ amNa 62 = 4 ∧ amRk 62 < amRk 61 := by decide +kernel
theorem c62_63 : (0 < 63 ∧ 63 < 900) ∧ amSt? 63 = false ∧ amNa 63 = 3 ∧ amRk 63 < amRk 62 := by decide +kernel
theorem c63_34 : (0 < 34 ∧ 34 < 900) ∧ amSt? 34 = false ∧ amNa 34 = 3 ∧ amRk 34 < amRk 63 := by decide +kernel
theorem c63_37 : (0 < 37 ∧ 37 < 900) ∧ amSt? 37 = false ∧ amNa 37 = 1 ∧ amRk 37 < amRk 63 := by decide +kernel
theorem c63_70 : (0 < 70 ∧ 70 < 900) ∧ amSt? 70 = false ∧ amNa 70 = 2 ∧ amRk 70 < amRk 63 := by decide +kernel
theorem c63_71 : (0 < 71 ∧ 71 < 900) ∧ amSt? 71 = false ∧ amNa 71 = 2 ∧ amRk 71 < amRk 63 := by decide +kernel
theorem c63_146 : (0 < 146 ∧ 146 < 900) ∧ amSt? 146 = true ∧ amNa 146 = 2 ∧ amRk 146 < amRk 63 := by decide +kernel
theorem c64_70 : (0 < 70 ∧ 70 < 900) ∧ amSt? 70 = false ∧ amNa 70 = 2 ∧ amRk 70 < amRk 64 := by decide +kernel
theorem c65_71 : (0 < 71 ∧ 71 < 900) ∧ amSt? 71 = false ∧ amNa 71 = 2 ∧ amRk 71 < amRk 65 := by decide +kernel
theorem c66_70 : (0 < 70 ∧ 70 < 900) ∧ amSt? 70 = false ∧ amNa 70 = 2 ∧ amRk 70 < amRk 66 := by decide +kernel
theorem c67_71 : (0 < 71 ∧ 71 < 900) ∧ amSt? 71 = false ∧ amNa 71 = 2 ∧ amRk 71 < amRk 67 := by decide +kernel
theorem c68_34 : (0 < 34 ∧ 34 < 900) ∧ amSt? 34 = false ∧ amNa 34 = 3 ∧ amRk 34 < amRk 68 := by decide +kernel
theorem c68_64 : (0 < 64 ∧ 64 < 900) ∧ amSt? 64 = false ∧ amNa 64 = 1 ∧ amRk 64 < amRk 68 := by decide +kernel
theorem c68_65 : (0 < 65 ∧ 65 < 900) ∧ amSt? 65 = false ∧ amNa 65 = 1 ∧ amRk 65 < amRk 68 := by decide +kernel
theorem c68_66 : (0 < 66 ∧ 66 < 900) ∧ amSt? 66 = false ∧ amNa 66 = 1 ∧ amRk 66 < amRk 68 := by decide +kernel
theorem c68_67 : (0 < 67 ∧ 67 < 900) ∧ amSt? 67 = false ∧ amNa 67 = 1 ∧ amRk 67 < amRk 68 := by decide +kernel
theorem c70_151 : (0 < 151 ∧ 151 < 900) ∧ amSt? 151 = true ∧ amNa 151 = 2 ∧ amRk 151 < amRk 70 := by decide +kernel
theorem c71_151 : (0 < 151 ∧ 151 < 900) ∧ amSt? 151 = true ∧ amNa 151 = 2 ∧ amRk 151 < amRk 71 := by decide +kernel
theorem c76_3 : (0 < 3 ∧ 3 < 900) ∧ amSt? 3 = false ∧ amNa 3 = 2 ∧ amRk 3 < amRk 76 := by decide +kernel
theorem c76_6 : (0 < 6 ∧ 6 < 900) ∧ amSt? 6 = false ∧ amNa 6 = 1 ∧ amRk 6 < amRk 76 := by decide +kernel
theorem c76_77 : (0 < 77 ∧ 77 < 900) ∧ amSt? 77 = false ∧ amNa 77 = 4 ∧ amRk 77 < amRk 76 := by decide +kernel
theorem c76_78 : (0 < 78 ∧ 78 < 900) ∧ amSt? 78 = false ∧ amNa 78 = 3 ∧ amRk 78 < amRk 76 := by decide +kernel
theorem c76_250 : (0 < 250 ∧ 250 < 900) ∧ amSt? 250 = true ∧ amNa 250 = 2 ∧ amRk 250 < amRk 76 := by decide +kernel
theorem c77_20 : (0 < 20 ∧ 20 < 900) ∧ amSt? 20 = false ∧ amNa 20 = 3 ∧ amRk 20 < amRk 77 := by decide +kernel
theorem c77_78 : (0 < 78 ∧ 78 < 900) ∧ amSt? 78 = false ∧ amNa 78 = 3 ∧ amRk 78 < amRk 77 := by decide +kernel
theorem c77_151 : (0 < 151 ∧ 151 < 900) ∧ amSt? 151 = true ∧ amNa 151 = 2 ∧ amRk 151 < amRk 77 := by decide +kernel
theorem c79_2 : (0 < 2 ∧ 2 < 900) ∧ amSt? 2 = false ∧ amNa 2 = 1 ∧ amRk 2 < amRk 79 := by decide +kernel
theorem c87_88 : (0 < 88 ∧ 88 < 900) ∧ amSt? 88 = false ∧ amNa 88 = 2 ∧ amRk 88 < amRk 87 := by decide +kernel
theorem c87_94 : (0 < 94 ∧ 94 < 900) ∧ amSt? 94 = false ∧ amNa 94 = 2 ∧ amRk 94 < amRk 87 := by decide +kernel
theorem c87_96 : (0 < 96 ∧ 96 < 900) ∧ amSt? 96 = true ∧ amNa 96 = 1 ∧ amRk 96 < amRk 87 := by decide +kernel
theorem c88_89 : (0 < 89 ∧ 89 < 900) ∧ amSt? 89 = false ∧ amNa 89 = 3 ∧ amRk 89 < amRk 88 := by decide +kernel
theorem c88_91 : (0 < 91 ∧ 91 < 900) ∧ amSt? 91 = false ∧ amNa 91 = 2 ∧ amRk 91 < amRk 88 := by decide +kernel
theorem c88_92 : (0 < 92 ∧ 92 < 900) ∧ amSt? 92 = false ∧ amNa 92 = 2 ∧ amRk 92 < amRk 88 := by decide +kernel
theorem c88_94 : (0 < 94 ∧ 94 < 900) ∧ amSt? 94 = false ∧ amNa 94 = 2 ∧ amRk 94 < amRk 88 := by decide +kernel
theorem c88_96 : (0 < 96 ∧ 96 < 900) ∧ amSt? 96 = true ∧ amNa 96 = 1 ∧ amRk 96 < amRk 88 := by decide +kernel
theorem c89_90 : (0 < 90 ∧ 90 < 900) ∧ amSt? 90 = true ∧ amNa 90 = 1 ∧ amRk 90 < amRk 89 := by decide +kernel
theorem c89_94 : (0 < 94 ∧ 94 < 900) ∧ amSt? 94 = false ∧ amNa 94 = 2 ∧ amRk 94 < amRk 89 := by decide +kernel
theorem c91_94 : (0 < 94 ∧ 94 < 900) ∧ amSt? 94 = false ∧ amNa 94 = 2 ∧ amRk 94 < amRk 91 := by decide +kernel
theorem c91_95 : (0 < 95 ∧ 95 < 900) ∧ amSt? 95 = false ∧ amNa 95 = 2 ∧ amRk 95 < amRk 91 := by decide +kernel
theorem c91_96 : (0 < 96 ∧ 96 < 900) ∧ amSt? 96 = true ∧ amNa 96 = 1 ∧ amRk 96 < amRk 91 := by decide +kernel
theorem c91_144 : (0 < 144 ∧ 144 < 900) ∧ amSt? 144 = true ∧ amNa 144 = 1 ∧ amRk 144 < amRk 91 := by decide +kernel
theorem c92_4 : (0 < 4 ∧ 4 < 900) ∧ amSt? 4 = false ∧ amNa 4 = 3 ∧ amRk 4 < amRk 92 := by decide +kernel
theorem c92_7 : (0 < 7 ∧ 7 < 900) ∧ amSt? 7 = false ∧ amNa 7 = 1 ∧ amRk 7 < amRk 92 := by decide +kernel
theorem c92_93 : (0 < 93 ∧ 93 < 900) ∧ amSt? 93 = false ∧ amNa 93 = 2 ∧ amRk 93 < amRk 92 := by decide +kernel
theorem c92_94 : (0 < 94 ∧ 94 < 900) ∧ amSt? 94 = false ∧ amNa 94 = 2 ∧ amRk 94 < amRk 92 := by decide +kernel
theorem c92_96 : (0 < 96 ∧ 96 < 900) ∧ amSt? 96 = true ∧ amNa 96 = 1 ∧ amRk 96 < amRk 92 := by decide +kernel
theorem c93_94 : (0 < 94 ∧ 94 < 900) ∧ amSt? 94 = false ∧ amNa 94 = 2 ∧ amRk 94 < amRk 93 := by decide +kernel
theorem c93_95 : (0 < 95 ∧ 95 < 900) ∧ amSt? 95 = false ∧ amNa 95 = 2 ∧ amRk 95 < amRk 93 := by decide +kernel
theorem c93_96 : (0 < 96 ∧ 96 < 900) ∧ amSt? 96 = true ∧ amNa 96 = 1 ∧ amRk 96 < amRk 93 := by decide +kernel
theorem c95_94 : (0 < 94 ∧ 94 < 900) ∧ amSt? 94 = false ∧ amNa 94 = 2 ∧ amRk 94 < amRk 95 := by decide +kernel
theorem c100_3 : (0 < 3 ∧ 3 < 900) ∧ amSt? 3 = false ∧ amNa 3 = 2 ∧ amRk 3 < amRk 100 := by decide +kernel
theorem c100_101 : (0 < 101 ∧ 101 < 900) ∧ amSt? 101 = false ∧ amNa 101 = 3 ∧ amRk 101 < amRk 100 := by decide +kernel
theorem c101_102 : (0 < 102 ∧ 102 < 900) ∧ amSt? 102 = false ∧ amNa 102 = 2 ∧ amRk 102 < amRk 101 := by decide +kernel
theorem c101_103 : (0 < 103 ∧ 103 < 900) ∧ amSt? 103 = false ∧ amNa 103 = 2 ∧ amRk 103 < amRk 101 := by decide +kernel
theorem c102_103 : (0 < 103 ∧ 103 < 900) ∧ amSt? 103 = false ∧ amNa 103 = 2 ∧ amRk 103 < amRk 102 := by decide +kernel
theorem c106_105 : (0 < 105 ∧ 105 < 900) ∧ amSt? 105 = false ∧ amNa 105 = 2 ∧ amRk 105 < amRk 106 := by decide +kernel
theorem c107_105 : (0 < 105 ∧ 105 < 900) ∧ amSt? 105 = false ∧ amNa 105 = 2 ∧ amRk 105 < amRk 107 := by decide +kernel
theorem c108_106 : (0 < 106 ∧ 106 < 900) ∧ amSt? 106 = false ∧ amNa 106 = 2 ∧ amRk 106 < amRk 108 := by decide +kernel
theorem c109_106 : (0 < 106 ∧ 106 < 900) ∧ amSt? 106 = false ∧ amNa 106 = 2 ∧ amRk 106 < amRk 109 := by decide +kernel
theorem c110_2 : (0 < 2 ∧ 2 < 900) ∧ amSt? 2 = false ∧ amNa 2 = 1 ∧ amRk 2 < amRk 110 := by decide +kernel
theorem c110_24 : (0 < 24 ∧ 24 < 900) ∧ amSt? 24 = false ∧ amNa 24 = 1 ∧ amRk 24 < amRk 110 := by decide +kernel
theorem c110_28 : (0 < 28 ∧ 28 < 900) ∧ amSt? 28 = false ∧ amNa 28 = 2 ∧ amRk 28 < amRk 110 := by decide +kernel
theorem c110_43 : (0 < 43 ∧ 43 < 900) ∧ amSt? 43 = false ∧ amNa 43 = 2 ∧ amRk 43 < amRk 110 := by decide +kernel
theorem c110_47 : (0 < 47 ∧ 47 < 900) ∧ amSt? 47 = false ∧ amNa 47 = 3 ∧ amRk 47 < amRk 110 := by decide +kernel
theorem c110_52 : (0 < 52 ∧ 52 < 900) ∧ amSt? 52 = false ∧ amNa 52 = 1 ∧ amRk 52 < amRk 110 := by decide +kernel
theorem c110_60 : (0 < 60 ∧ 60 < 900) ∧ amSt? 60 = false ∧ amNa 60 = 1 ∧ amRk 60 < amRk 110 := by decide +kernel
theorem c110_72 : (0 < 72 ∧ 72 < 900) ∧ amSt? 72 = false ∧ amNa 72 = 1 ∧ amRk 72 < amRk 110 := by decide +kernel
theorem c110_79 : (0 < 79 ∧ 79 < 900) ∧ amSt? 79 = false ∧ amNa 79 = 1 ∧ amRk 79 < amRk 110 := by decide +kernel
theorem c110_97 : (0 < 97 ∧ 97 < 900) ∧ amSt? 97 = false ∧ amNa 97 = 1 ∧ amRk 97 < amRk 110 := by decide +kernel
theorem c110_104 : (0 < 104 ∧ 104 < 900) ∧ amSt? 104 = false ∧ amNa 104 = 1 ∧ amRk 104 < amRk 110 := by decide +kernel
theorem c111_4 : (0 < 4 ∧ 4 < 900) ∧ amSt? 4 = false ∧ amNa 4 = 3 ∧ amRk 4 < amRk 111 := by decide +kernel
theorem c111_7 : (0 < 7 ∧ 7 < 900) ∧ amSt? 7 = false ∧ amNa 7 = 1 ∧ amRk 7 < amRk 111 := by decide +kernel
theorem c111_142 : (0 < 142 ∧ 142 < 900) ∧ amSt? 142 = false ∧ amNa 142 = 2 ∧ amRk 142 < amRk 111 := by decide +kernel
theorem c111_145 : (0 < 145 ∧ 145 < 900) ∧ amSt? 145 = true ∧ amNa 145 = 1 ∧ amRk 145 < amRk 111 := by decide +kernel
theorem c112_48 : (0 < 48 ∧ 48 < 900) ∧ amSt? 48 = false ∧ amNa 48 = 6 ∧ amRk 48 < amRk 112 := by decide +kernel
theorem c112_54 : (0 < 54 ∧ 54 < 900) ∧ amSt? 54 = false ∧ amNa 54 = 1 ∧ amRk 54 < amRk 112 := by decide +kernel
theorem c112_55 : (0 < 55 ∧ 55 < 900) ∧ amSt? 55 = false ∧ amNa 55 = 2 ∧ amRk 55 < amRk 112 := by decide +kernel
theorem c112_142 : (0 < 142 ∧ 142 < 900) ∧ amSt? 142 = false ∧ amNa 142 = 2 ∧ amRk 142 < amRk 112 := by decide +kernel
theorem c112_143 : (0 < 143 ∧ 143 < 900) ∧ amSt? 143 = false ∧ amNa 143 = 3 ∧ amRk 143 < amRk 112 := by decide +kernel
theorem c112_144 : (0 < 144 ∧ 144 < 900) ∧ amSt? 144 = true ∧ amNa 144 = 1 ∧ amRk 144 < amRk 112 := by decide +kernel
theorem c113_53 : (0 < 53 ∧ 53 < 900) ∧ amSt? 53 = false ∧ amNa 53 = 1 ∧ amRk 53 < amRk 113 := by decide +kernel
theorem c113_57 : (0 < 57 ∧ 57 < 900) ∧ amSt? 57 = false ∧ amNa 57 = 2 ∧ amRk 57 < amRk 113 := by decide +kernel
theorem c114_3 : (0 < 3 ∧ 3 < 900) ∧ amSt? 3 = false ∧ amNa 3 = 2 ∧ amRk 3 < amRk 114 := by decide +kernel
theorem c114_55 : (0 < 55 ∧ 55 < 900) ∧ amSt? 55 = false ∧ amNa 55 = 2 ∧ amRk 55 < amRk 114 := by decide +kernel
theorem c115_5 : (0 < 5 ∧ 5 < 900) ∧ amSt? 5 = false ∧ amNa 5 = 1 ∧ amRk 5 < amRk 115 := by decide +kernel
theorem c115_11 : (0 < 11 ∧ 11 < 900) ∧ amSt? 11 = false ∧ amNa 11 = 1 ∧ amRk 11 < amRk 115 := by decide +kernel
theorem c115_55 : (0 < 55 ∧ 55 < 900) ∧ amSt? 55 = false ∧ amNa 55 = 2 ∧ amRk 55 < amRk 115 := by decide +kernel
theorem c115_58 : (0 < 58 ∧ 58 < 900) ∧ amSt? 58 = false ∧ amNa 58 = 2 ∧ amRk 58 < amRk 115 := by decide +kernel
theorem c116_20 : (0 < 20 ∧ 20 < 900) ∧ amSt? 20 = false ∧ amNa 20 = 3 ∧ amRk 20 < amRk 116 := by decide +kernel
theorem c116_55 : (0 < 55 ∧ 55 < 900) ∧ amSt? 55 = false ∧ amNa 55 = 2 ∧ amRk 55 < amRk 116 := by decide +kernel
theorem c116_146 : (0 < 146 ∧ 146 < 900) ∧ amSt? 146 = true ∧ amNa 146 = 2 ∧ amRk 146 < amRk 116 := by decide +kernel
theorem c117_3 : (0 < 3 ∧ 3 < 900) ∧ amSt? 3 = false ∧ amNa 3 = 2 ∧ amRk 3 < amRk 117 := by decide +kernel
theorem c117_29 : (0 < 29 ∧ 29 < 900) ∧ amSt? 29 = false ∧ amNa 29 = 2 ∧ amRk 29 < amRk 117 := by decide +kernel
theorem c117_32 : (0 < 32 ∧ 32 < 900) ∧ amSt? 32 = false ∧ amNa 32 = 1 ∧ amRk 32 < amRk 117 := by decide +kernel
theorem c117_33 : (0 < 33 ∧ 33 < 900) ∧ amSt? 33 = false ∧ amNa 33 = 2 ∧ amRk 33 < amRk 117 := by decide +kernel
theorem c117_55 : (0 < 55 ∧ 55 < 900) ∧ amSt? 55 = false ∧ amNa 55 = 2 ∧ amRk 55 < amRk 117 := by decide +kernel
theorem c118_29 : (0 < 29 ∧ 29 < 900) ∧ amSt? 29 = false ∧ amNa 29 = 2 ∧ amRk 29 < amRk 118 := by decide +kernel
theorem c118_34 : (0 < 34 ∧ 34 < 900) ∧ amSt? 34 = false ∧ amNa 34 = 3 ∧ amRk 34 < amRk 118 := by decide +kernel
theorem c118_55 : (0 < 55 ∧ 55 < 900) ∧ amSt? 55 = false ∧ amNa 55 = 2 ∧ amRk 55 < amRk 118 := by decide +kernel
theorem c118_146 : (0 < 146 ∧ 146 < 900) ∧ amSt? 146 = true ∧ amNa 146 = 2 ∧ amRk 146 < amRk 118 := by decide +kernel
theorem c119_29 : (0 < 29 ∧ 29 < 900) ∧ amSt? 29 = false ∧ amNa 29 = 2 ∧ amRk 29 < amRk 119 := by decide +kernel
theorem c119_39 : (0 < 39 ∧ 39 < 900) ∧ amSt? 39 = false ∧ amNa 39 = 1 ∧ amRk 39 < amRk 119 := by decide +kernel
theorem c119_55 : (0 < 55 ∧ 55 < 900) ∧ amSt? 55 = false ∧ amNa 55 = 2 ∧ amRk 55 < amRk 119 := by decide +kernel
theorem c120_29 : (0 < 29 ∧ 29 < 900) ∧ amSt? 29 = false ∧ amNa 29 = 2 ∧ amRk 29 < amRk 120 := by decide +kernel
theorem c120_34 : (0 < 34 ∧ 34 < 900) ∧ amSt? 34 = false ∧ amNa 34 = 3 ∧ amRk 34 < amRk 120 := by decide +kernel
theorem c120_55 : (0 < 55 ∧ 55 < 900) ∧ amSt? 55 = false ∧ amNa 55 = 2 ∧ amRk 55 < amRk 120 := by decide +kernel
theorem c120_146 : (0 < 146 ∧ 146 < 900) ∧ amSt? 146 = true ∧ amNa 146 = 2 ∧ amRk 146 < amRk 120 := by decide +kernel
theorem c121_29 : (0 < 29 ∧ 29 < 900) ∧ amSt? 29 = false ∧ amNa 29 = 2 ∧ amRk 29 < amRk 121 := by decide +kernel
theorem c121_42 : (0 < 42 ∧ 42 < 900) ∧ amSt? 42 = false ∧ amNa 42 = 1 ∧ amRk 42 < amRk 121 := by decide +kernel
theorem c121_55 : (0 < 55 ∧ 55 < 900) ∧ amSt? 55 = false ∧ amNa 55 = 2 ∧ amRk 55 < amRk 121 := by decide +kernel
theorem c122_29 : (0 < 29 ∧ 29 < 900) ∧ amSt? 29 = false ∧ amNa 29 = 2 ∧ amRk 29 < amRk 122 := by decide +kernel
theorem c122_40 : (0 < 40 ∧ 40 < 900) ∧ amSt? 40 = false ∧ amNa 40 = 2 ∧ amRk 40 < amRk 122 := by decide +kernel
theorem c122_55 : (0 < 55 ∧ 55 < 900) ∧ amSt? 55 = false ∧ amNa 55 = 2 ∧ amRk 55 < amRk 122 := by decide +kernel
theorem c122_61 : (0 < 61 ∧ 61 < 900) ∧ amSt? 61 = false ∧ amNa 61 = 4 ∧ amRk 61 < amRk 122 := by decide +kernel
theorem c122_64 : (0 < 64 ∧ 64 < 900) ∧ amSt? 64 = false ∧ amNa 64 = 1 ∧ amRk 64 < amRk 122 := by decide +kernel
theorem c122_65 : (0 < 65 ∧ 65 < 900) ∧ amSt? 65 = false ∧ amNa 65 = 1 ∧ amRk 65 < amRk 122 := by decide +kernel
theorem c122_66 : (0 < 66 ∧ 66 < 900) ∧ amSt? 66 = false ∧ amNa 66 = 1 ∧ amRk 66 < amRk 122 := by decide +kernel
theorem c122_67 : (0 < 67 ∧ 67 < 900) ∧ amSt? 67 = false ∧ amNa 67 = 1 ∧ amRk 67 < amRk 122 := by decide +kernel
theorem c123_29 : (0 < 29 ∧ 29 < 900) ∧ amSt? 29 = false ∧ amNa 29 = 2 ∧ amRk 29 < amRk 123 := by decide +kernel
theorem c123_40 : (0 < 40 ∧ 40 < 900) ∧ amSt? 40 = false ∧ amNa 40 = 2 ∧ amRk 40 < amRk 123 := by decide +kernel
theorem c123_44 : (0 < 44 ∧ 44 < 900) ∧ amSt? 44 = false ∧ amNa 44 = 2 ∧ amRk 44 < amRk 123 := by decide +kernel
theorem c123_45 : (0 < 45 ∧ 45 < 900) ∧ amSt? 45 = false ∧ amNa 45 = 2 ∧ amRk 45 < amRk 123 := by decide +kernel
theorem c123_55 : (0 < 55 ∧ 55 < 900) ∧ amSt? 55 = false ∧ amNa 55 = 2 ∧ amRk 55 < amRk 123 := by decide +kernel
theorem c123_61 : (0 < 61 ∧ 61 < 900) ∧ amSt? 61 = false ∧ amNa 61 = 4 ∧ amRk 61 < amRk 123 := by decide +kernel
theorem c123_68 : (0 < 68 ∧ 68 < 900) ∧ amSt? 68 = false ∧ amNa 68 = 2 ∧ amRk 68 < amRk 123 := by decide +kernel
theorem c124_25 : (0 < 25 ∧ 25 < 900) ∧ amSt? 25 = false ∧ amNa 25 = 1 ∧ amRk 25 < amRk 124 := by decide +kernel
theorem c124_26 : (0 < 26 ∧ 26 < 900) ∧ amSt? 26 = false ∧ amNa 26 = 3 ∧ amRk 26 < amRk 124 := by decide +kernel
theorem c124_29 : (0 < 29 ∧ 29 < 900) ∧ amSt? 29 = false ∧ amNa 29 = 2 ∧ amRk 29 < amRk 124 := by decide +kernel
theorem c124_39 : (0 < 39 ∧ 39 < 900) ∧ amSt? 39 = false ∧ amNa 39 = 1 ∧ amRk 39 < amRk 124 := by decide +kernel
theorem c124_55 : (0 < 55 ∧ 55 < 900) ∧ amSt? 55 = false ∧ amNa 55 = 2 ∧ amRk 55 < amRk 124 := by decide +kernel
theorem c125_25 : (0 < 25 ∧ 25 < 900) ∧ amSt? 25 = false ∧ amNa 25 = 1 ∧ amRk 25 < amRk 125 := by decide +kernel
theorem c125_26 : (0 < 26 ∧ 26 < 900) ∧ amSt? 26 = false ∧ amNa 26 = 3 ∧ amRk 26 < amRk 125 := by decide +kernel
theorem c125_29 : (0 < 29 ∧ 29 < 900) ∧ amSt? 29 = false ∧ amNa 29 = 2 ∧ amRk 29 < amRk 125 := by decide +kernel
theorem c125_40 : (0 < 40 ∧ 40 < 900) ∧ amSt? 40 = false ∧ amNa 40 = 2 ∧ amRk 40 < amRk 125 := by decide +kernel
theorem c125_55 : (0 < 55 ∧ 55 < 900) ∧ amSt? 55 = false ∧ amNa 55 = 2 ∧ amRk 55 < amRk 125 := by decide +kernel
theorem c125_61 : (0 < 61 ∧ 61 < 900) ∧ amSt? 61 = false ∧ amNa 61 = 4 ∧ amRk 61 < amRk 125 := by decide +kernel
theorem c125_68 : (0 < 68 ∧ 68 < 900) ∧ amSt? 68 = false ∧ amNa 68 = 2 ∧ amRk 68 < amRk 125 := by decide +kernel
theorem c125_147 : (0 < 147 ∧ 147 < 900) ∧ amSt? 147 = false ∧ amNa 147 = 3 ∧ amRk 147 < amRk 125 := by decide +kernel
theorem c126_30 : (0 < 30 ∧ 30 < 900) ∧ amSt? 30 = false ∧ amNa 30 = 3 ∧ amRk 30 < amRk 126 := by decide +kernel
theorem c126_39 : (0 < 39 ∧ 39 < 900) ∧ amSt? 39 = false ∧ amNa 39 = 1 ∧ amRk 39 < amRk 126 := by decide +kernel
theorem c126_55 : (0 < 55 ∧ 55 < 900) ∧ amSt? 55 = false ∧ amNa 55 = 2 ∧ amRk 55 < amRk 126 := by decide +kernel
theorem c127_25 : (0 < 25 ∧ 25 < 900) ∧ amSt? 25 = false ∧ amNa 25 = 1 ∧ amRk 25 < amRk 127 := by decide +kernel
theorem c127_26 : (0 < 26 ∧ 26 < 900) ∧ amSt? 26 = false ∧ amNa 26 = 3 ∧ amRk 26 < amRk 127 := by decide +kernel
theorem c127_29 : (0 < 29 ∧ 29 < 900) ∧ amSt? 29 = false ∧ amNa 29 = 2 ∧ amRk 29 < amRk 127 := by decide +kernel
theorem c127_40 : (0 < 40 ∧ 40 < 900) ∧ amSt? 40 = false ∧ amNa 40 = 2 ∧ amRk 40 < amRk 127 := by decide +kernel
theorem c127_55 : (0 < 55 ∧ 55 < 900) ∧ amSt? 55 = false ∧ amNa 55 = 2 ∧ amRk 55 < amRk 127 := by decide +kernel
theorem c127_61 : (0 < 61 ∧ 61 < 900) ∧ amSt? 61 = false ∧ amNa 61 = 4 ∧ amRk 61 < amRk 127 := by decide +kernel
theorem c127_148 : (0 < 148 ∧ 148 < 900) ∧ amSt? 148 = false ∧ amNa 148 = 1 ∧ amRk 148 < amRk 127 := by decide +kernel
theorem c127_149 : (0 < 149 ∧ 149 < 900) ∧ amSt? 149 = false ∧ amNa 149 = 3 ∧ amRk 149 < amRk 127 := by decide +kernel
theorem c128_55 : (0 < 55 ∧ 55 < 900) ∧ amSt? 55 = false ∧ amNa 55 = 2 ∧ amRk 55 < amRk 128 := by decide +kernel
theorem c128_73 : (0 < 73 ∧ 73 < 900) ∧ amSt? 73 = false ∧ amNa 73 = 1 ∧ amRk 73 < amRk 128 := by decide +kernel
theorem c128_74 : (0 < 74 ∧ 74 < 900) ∧ amSt? 74 = false ∧ amNa 74 = 2 ∧ amRk 74 < amRk 128 := by decide +kernel
theorem c128_75 : (0 < 75 ∧ 75 < 900) ∧ amSt? 75 = false ∧ amNa 75 = 2 ∧ amRk 75 < amRk 128 := by decide +kernel
theorem c128_76 : (0 < 76 ∧ 76 < 900) ∧ amSt? 76 = false ∧ amNa 76 = 2 ∧ amRk 76 < amRk 128 := by decide +kernel
theorem c129_80 : (0 < 80 ∧ 80 < 900) ∧ amSt? 80 = false ∧ amNa 80 = 1 ∧ amRk 80 < amRk 129 := by decide +kernel
theorem c129_81 : (0 < 81 ∧ 81 < 900) ∧ amSt? 81 = false ∧ amNa 81 = 2 ∧ amRk 81 < amRk 129 := by decide +kernel
theorem c130_53 : (0 < 53 ∧ 53 < 900) ∧ amSt? 53 = false ∧ amNa 53 = 1 ∧ amRk 53 < amRk 130 := by decide +kernel
theorem c130_57 : (0 < 57 ∧ 57 < 900) ∧ amSt? 57 = false ∧ amNa 57 = 2 ∧ amRk 57 < amRk 130 := by decide +kernel
theorem c130_82 : (0 < 82 ∧ 82 < 900) ∧ amSt? 82 = false ∧ amNa 82 = 1 ∧ amRk 82 < amRk 130 := by decide +kernel
theorem c130_83 : (0 < 83 ∧ 83 < 900) ∧ amSt? 83 = false ∧ amNa 83 = 1 ∧ amRk 83 < amRk 130 := by decide +kernel
theorem c130_84 : (0 < 84 ∧ 84 < 900) ∧ amSt? 84 = false ∧ amNa 84 = 1 ∧ amRk 84 < amRk 130 := by decide +kernel
theorem c130_85 : (0 < 85 ∧ 85 < 900) ∧ amSt? 85 = false ∧ amNa 85 = 1 ∧ amRk 85 < amRk 130 := by decide +kernel
theorem c130_86 : (0 < 86 ∧ 86 < 900) ∧ amSt? 86 = false ∧ amNa 86 = 1 ∧ amRk 86 < amRk 130 := by decide +kernel
theorem c130_87 : (0 < 87 ∧ 87 < 900) ∧ amSt? 87 = false ∧ amNa 87 = 1 ∧ amRk 87 < amRk 130 := by decide +kernel
theorem c130_88 : (0 < 88 ∧ 88 < 900) ∧ amSt? 88 = false ∧ amNa 88 = 2 ∧ amRk 88 < amRk 130 := by decide +kernel
theorem c130_112 : (0 < 112 ∧ 112 < 900) ∧ amSt? 112 = false ∧ amNa 112 = 4 ∧ amRk 112 < amRk 130 := by decide +kernel
theorem c130_142 : (0 < 142 ∧ 142 < 900) ∧ amSt? 142 = false ∧ amNa 142 = 2 ∧ amRk 142 < amRk 130 := by decide +kernel
theorem c131_55 : (0 < 55 ∧ 55 < 900) ∧ amSt? 55 = false ∧ amNa 55 = 2 ∧ amRk 55 < amRk 131 := by decide +kernel
theorem c131_98 : (0 < 98 ∧ 98 < 900) ∧ amSt? 98 = false ∧ amNa 98 = 1 ∧ amRk 98 < amRk 131 := by decide +kernel
theorem c131_100 : (0 < 100 ∧ 100 < 900) ∧ amSt? 100 = false ∧ amNa 100 = 2 ∧ amRk 100 < amRk 131 := by decide +kernel
theorem c132_98 : (0 < 98 ∧ 98 < 900) ∧ amSt? 98 = false ∧ amNa 98 = 1 ∧ amRk 98 < amRk 132 := by decide +kernel
theorem c132_99 : (0 < 99 ∧ 99 < 900) ∧ amSt? 99 = false ∧ amNa 99 = 2 ∧ amRk 99 < amRk 132 := by decide +kernel
theorem c133_29 : (0 < 29 ∧ 29 < 900) ∧ amSt? 29 = false ∧ amNa 29 = 2 ∧ amRk 29 < amRk 133 := by decide +kernel
theorem c133_39 : (0 < 39 ∧ 39 < 900) ∧ amSt? 39 = false ∧ amNa 39 = 1 ∧ amRk 39 < amRk 133 := by decide +kernel
theorem c133_55 : (0 < 55 ∧ 55 < 900) ∧ amSt? 55 = false ∧ amNa 55 = 2 ∧ amRk 55 < amRk 133 := by decide +kernel
theorem c133_105 : (0 < 105 ∧ 105 < 900) ∧ amSt? 105 = false ∧ amNa 105 = 2 ∧ amRk 105 < amRk 133 := by decide +kernel
theorem c133_106 : (0 < 106 ∧ 106 < 900) ∧ amSt? 106 = false ∧ amNa 106 = 2 ∧ amRk 106 < amRk 133 := by decide +kernel
theorem c133_150 : (0 < 150 ∧ 150 < 900) ∧ amSt? 150 = false ∧ amNa 150 = 4 ∧ amRk 150 < amRk 133 := by decide +kernel
theorem c134_3 : (0 < 3 ∧ 3 < 900) ∧ amSt? 3 = false ∧ amNa 3 = 2 ∧ amRk 3 < amRk 134 := by decide +kernel
theorem c134_4 : (0 < 4 ∧ 4 < 900) ∧ amSt? 4 = false ∧ amNa 4 = 3 ∧ amRk 4 < amRk 134 := by decide +kernel
theorem c134_7 : (0 < 7 ∧ 7 < 900) ∧ amSt? 7 = false ∧ amNa 7 = 1 ∧ amRk 7 < amRk 134 := by decide +kernel
theorem c134_29 : (0 < 29 ∧ 29 < 900) ∧ amSt? 29 = false ∧ amNa 29 = 2 ∧ amRk 29 < amRk 134 := by decide +kernel
theorem c134_39 : (0 < 39 ∧ 39 < 900) ∧ amSt? 39 = false ∧ amNa 39 = 1 ∧ amRk 39 < amRk 134 := by decide +kernel
theorem c135_105 : (0 < 105 ∧ 105 < 900) ∧ amSt? 105 = false ∧ amNa 105 = 2 ∧ amRk 105 < amRk 135 := by decide +kernel
theorem c135_107 : (0 < 107 ∧ 107 < 900) ∧ amSt? 107 = false ∧ amNa 107 = 3 ∧ amRk 107 < amRk 135 := by decide +kernel
theorem c136_105 : (0 < 105 ∧ 105 < 900) ∧ amSt? 105 = false ∧ amNa 105 = 2 ∧ amRk 105 < amRk 136 := by decide +kernel
theorem c136_106 : (0 < 106 ∧ 106 < 900) ∧ amSt? 106 = false ∧ amNa 106 = 2 ∧ amRk 106 < amRk 136 := by decide +kernel
theorem c136_109 : (0 < 109 ∧ 109 < 900) ∧ amSt? 109 = false ∧ amNa 109 = 4 ∧ amRk 109 < amRk 136 := by decide +kernel
theorem c137_105 : (0 < 105 ∧ 105 < 900) ∧ amSt? 105 = false ∧ amNa 105 = 2 ∧ amRk 105 < amRk 137 := by decide +kernel
theorem c137_106 : (0 < 106 ∧ 106 < 900) ∧ amSt? 106 = false ∧ amNa 106 = 2 ∧ amRk 106 < amRk 137 := by decide +kernel
theorem c137_108 : (0 < 108 ∧ 108 < 900) ∧ amSt? 108 = false ∧ amNa 108 = 3 ∧ amRk 108 < amRk 137 := by decide +kernel
theorem c138_3 : (0 < 3 ∧ 3 < 900) ∧ amSt? 3 = false ∧ amNa 3 = 2 ∧ amRk 3 < amRk 138 := by decide +kernel
theorem c138_55 : (0 < 55 ∧ 55 < 900) ∧ amSt? 55 = false ∧ amNa 55 = 2 ∧ amRk 55 < amRk 138 := by decide +kernel
theorem c138_105 : (0 < 105 ∧ 105 < 900) ∧ amSt? 105 = false ∧ amNa 105 = 2 ∧ amRk 105 < amRk 138 := by decide +kernel
theorem c138_106 : (0 < 106 ∧ 106 < 900) ∧ amSt? 106 = false ∧ amNa 106 = 2 ∧ amRk 106 < amRk 138 := by decide +kernel
theorem c138_109 : (0 < 109 ∧ 109 < 900) ∧ amSt? 109 = false ∧ amNa 109 = 4 ∧ amRk 109 < amRk 138 := by decide +kernel
theorem c139_53 : (0 < 53 ∧ 53 < 900) ∧ amSt? 53 = false ∧ amNa 53 = 1 ∧ amRk 53 < amRk 139 := by decide +kernel
theorem c139_59 : (0 < 59 ∧ 59 < 900) ∧ amSt? 59 = false ∧ amNa 59 = 2 ∧ amRk 59 < amRk 139 := by decide +kernel
theorem c140_53 : (0 < 53 ∧ 53 < 900) ∧ amSt? 53 = false ∧ amNa 53 = 1 ∧ amRk 53 < amRk 140 := by decide +kernel
theorem c140_59 : (0 < 59 ∧ 59 < 900) ∧ amSt? 59 = false ∧ amNa 59 = 2 ∧ amRk 59 < amRk 140 := by decide +kernel
theorem c141_53 : (0 < 53 ∧ 53 < 900) ∧ amSt? 53 = false ∧ amNa 53 = 1 ∧ amRk 53 < amRk 141 := by decide +kernel
theorem c141_80 : (0 < 80 ∧ 80 < 900) ∧ amSt? 80 = false ∧ amNa 80 = 1 ∧ amRk 80 < amRk 141 := by decide +kernel
theorem c141_98 : (0 < 98 ∧ 98 < 900) ∧ amSt? 98 = false ∧ amNa 98 = 1 ∧ amRk 98 < amRk 141 := by decide +kernel
theorem c142_5 : (0 < 5 ∧ 5 < 900) ∧ amSt? 5 = false ∧ amNa 5 = 1 ∧ amRk 5 < amRk 142 := by decide +kernel
theorem c142_10 : (0 < 10 ∧ 10 < 900) ∧ amSt? 10 = false ∧ amNa 10 = 1 ∧ amRk 10 < amRk 142 := by decide +kernel
theorem c142_54 : (0 < 54 ∧ 54 < 900) ∧ amSt? 54 = false ∧ amNa 54 = 1 ∧ amRk 54 < amRk 142 := by decide +kernel
theorem c142_56 : (0 < 56 ∧ 56 < 900) ∧ amSt? 56 = false ∧ amNa 56 = 2 ∧ amRk 56 < amRk 142 := by decide +kernel
theorem c143_55 : (0 < 55 ∧ 55 < 900) ∧ amSt? 55 = false ∧ amNa 55 = 2 ∧ amRk 55 < amRk 143 := by decide +kernel
theorem c143_144 : (0 < 144 ∧ 144 < 900) ∧ amSt? 144 = true ∧ amNa 144 = 1 ∧ amRk 144 < amRk 143 := by decide +kernel
theorem c147_21 : (0 < 21 ∧ 21 < 900) ∧ amSt? 21 = false ∧ amNa 21 = 3 ∧ amRk 21 < amRk 147 := by decide +kernel
theorem c147_62 : (0 < 62 ∧ 62 < 900) ∧ amSt? 62 = false ∧ amNa 62 = 4 ∧ amRk 62 < amRk 147 := by decide +kernel
theorem c147_66 : (0 < 66 ∧ 66 < 900) ∧ amSt? 66 = false ∧ amNa 66 = 1 ∧ amRk 66 < amRk 147 := by decide +kernel
theorem c147_67 : (0 < 67 ∧ 67 < 900) ∧ amSt? 67 = false ∧ amNa 67 = 1 ∧ amRk 67 < amRk 147 := by decide +kernel
theorem c147_68 : (0 < 68 ∧ 68 < 900) ∧ amSt? 68 = false ∧ amNa 68 = 2 ∧ amRk 68 < amRk 147 := by decide +kernel
theorem c148_34 : (0 < 34 ∧ 34 < 900) ∧ amSt? 34 = false ∧ amNa 34 = 3 ∧ amRk 34 < amRk 148 := by decide +kernel
theorem c148_66 : (0 < 66 ∧ 66 < 900) ∧ amSt? 66 = false ∧ amNa 66 = 1 ∧ amRk 66 < amRk 148 := by decide +kernel
theorem c148_67 : (0 < 67 ∧ 67 < 900) ∧ amSt? 67 = false ∧ amNa 67 = 1 ∧ amRk 67 < amRk 148 := by decide +kernel
theorem c148_68 : (0 < 68 ∧ 68 < 900) ∧ amSt? 68 = false ∧ amNa 68 = 2 ∧ amRk 68 < amRk 148 := by decide +kernel
theorem c149_62 : (0 < 62 ∧ 62 < 900) ∧ amSt? 62 = false ∧ amNa 62 = 4 ∧ amRk 62 < amRk 149 := by decide +kernel
theorem c149_69 : (0 < 69 ∧ 69 < 900) ∧ amSt? 69 = false ∧ amNa 69 = 2 ∧ amRk 69 < amRk 149 := by decide +kernel
theorem c150_41 : (0 < 41 ∧ 41 < 900) ∧ amSt? 41 = false ∧ amNa 41 = 3 ∧ amRk 41 < amRk 150 := by decide +kernel
theorem c150_108 : (0 < 108 ∧ 108 < 900) ∧ amSt? 108 = false ∧ amNa 108 = 3 ∧ amRk 108 < amRk 150 := by decide +kernel
theorem c150_146 : (0 < 146 ∧ 146 < 900) ∧ amSt? 146 = true ∧ amNa 146 = 2 ∧ amRk 146 < amRk 150 := by decide +kernel
theorem c155_153 : (0 < 153 ∧ 153 < 900) ∧ amSt? 153 = true ∧ amNa 153 = 1 ∧ amRk 153 < amRk 155 := by decide +kernel
theorem c157_152 : (0 < 152 ∧ 152 < 900) ∧ amSt? 152 = true ∧ amNa 152 = 3 ∧ amRk 152 < amRk 157 := by decide +kernel
theorem c158_153 : (0 < 153 ∧ 153 < 900) ∧ amSt? 153 = true ∧ amNa 153 = 1 ∧ amRk 153 < amRk 158 := by decide +kernel
theorem c158_173 : (0 < 173 ∧ 173 < 900) ∧ amSt? 173 = true ∧ amNa 173 = 1 ∧ amRk 173 < amRk 158 := by decide +kernel
theorem c159_152 : (0 < 152 ∧ 152 < 900) ∧ amSt? 152 = true ∧ amNa 152 = 3 ∧ amRk 152 < amRk 159 := by decide +kernel
theorem c160_158 : (0 < 158 ∧ 158 < 900) ∧ amSt? 158 = false ∧ amNa 158 = 1 ∧ amRk 158 < amRk 160 := by decide +kernel
theorem c160_159 : (0 < 159 ∧ 159 < 900) ∧ amSt? 159 = true ∧ amNa 159 = 1 ∧ amRk 159 < amRk 160 := by decide +kernel
theorem c160_171 : (0 < 171 ∧ 171 < 900) ∧ amSt? 171 = true ∧ amNa 171 = 1 ∧ amRk 171 < amRk 160 := by decide +kernel
theorem c162_152 : (0 < 152 ∧ 152 < 900) ∧ amSt? 152 = true ∧ amNa 152 = 3 ∧ amRk 152 < amRk 162 := by decide +kernel
theorem c162_157 : (0 < 157 ∧ 157 < 900) ∧ amSt? 157 = false ∧ amNa 157 = 2 ∧ amRk 157 < amRk 162 := by decide +kernel
theorem c163_171 : (0 < 171 ∧ 171 < 900) ∧ amSt? 171 = true ∧ amNa 171 = 1 ∧ amRk 171 < amRk 163 := by decide +kernel
theorem c164_154 : (0 < 154 ∧ 154 < 900) ∧ amSt? 154 = true ∧ amNa 154 = 1 ∧ amRk 154 < amRk 164 := by decide +kernel
theorem c166_152 : (0 < 152 ∧ 152 < 900) ∧ amSt? 152 = true ∧ amNa 152 = 3 ∧ amRk 152 < amRk 166 := by decide +kernel
theorem c166_157 : (0 < 157 ∧ 157 < 900) ∧ amSt? 157 = false ∧ amNa 157 = 2 ∧ amRk 157 < amRk 166 := by decide +kernel
theorem c166_163 : (0 < 163 ∧ 163 < 900) ∧ amSt? 163 = false ∧ amNa 163 = 3 ∧ amRk 163 < amRk 166 := by decide +kernel
theorem c166_164 : (0 < 164 ∧ 164 < 900) ∧ amSt? 164 = false ∧ amNa 164 = 1 ∧ amRk 164 < amRk 166 := by decide +kernel
theorem c166_165 : (0 < 165 ∧ 165 < 900) ∧ amSt? 165 = false ∧ amNa 165 = 2 ∧ amRk 165 < amRk 166 := by decide +kernel
theorem c166_173 : (0 < 173 ∧ 173 < 900) ∧ amSt? 173 = true ∧ amNa 173 = 1 ∧ amRk 173 < amRk 166 := by decide +kernel
theorem c167_152 : (0 < 152 ∧ 152 < 900) ∧ amSt? 152 = true ∧ amNa 152 = 3 ∧ amRk 152 < amRk 167 := by decide +kernel
theorem c169_168 : (0 < 168 ∧ 168 < 900) ∧ amSt? 168 = true ∧ amNa 168 = 2 ∧ amRk 168 < amRk 169 := by decide +kernel
theorem c169_173 : (0 < 173 ∧ 173 < 900) ∧ amSt? 173 = true ∧ amNa 173 = 1 ∧ amRk 173 < amRk 169 := by decide +kernel
theorem c170_157 : (0 < 157 ∧ 157 < 900) ∧ amSt? 157 = false ∧ amNa 157 = 2 ∧ amRk 157 < amRk 170 := by decide +kernel
theorem c170_163 : (0 < 163 ∧ 163 < 900) ∧ amSt? 163 = false ∧ amNa 163 = 3 ∧ amRk 163 < amRk 170 := by decide +kernel
theorem c170_167 : (0 < 167 ∧ 167 < 900) ∧ amSt? 167 = true ∧ amNa 167 = 2 ∧ amRk 167 < amRk 170 := by decide +kernel
theorem c170_169 : (0 < 169 ∧ 169 < 900) ∧ amSt? 169 = true ∧ amNa 169 = 3 ∧ amRk 169 < amRk 170 := by decide +kernel
theorem c174_173 : (0 < 173 ∧ 173 < 900) ∧ amSt? 173 = true ∧ amNa 173 = 1 ∧ amRk 173 < amRk 174 := by decide +kernel
theorem c175_153 : (0 < 153 ∧ 153 < 900) ∧ amSt? 153 = true ∧ amNa 153 = 1 ∧ amRk 153 < amRk 175 := by decide +kernel
theorem c175_155 : (0 < 155 ∧ 155 < 900) ∧ amSt? 155 = true ∧ amNa 155 = 2 ∧ amRk 155 < amRk 175 := by decide +kernel
theorem c177_173 : (0 < 173 ∧ 173 < 900) ∧ amSt? 173 = true ∧ amNa 173 = 1 ∧ amRk 173 < amRk 177 := by decide +kernel
theorem c177_174 : (0 < 174 ∧ 174 < 900) ∧ amSt? 174 = true ∧ amNa 174 = 1 ∧ amRk 174 < amRk 177 := by decide +kernel
theorem c177_176 : (0 < 176 ∧ 176 < 900) ∧ amSt? 176 = true ∧ amNa 176 = 1 ∧ amRk 176 < amRk 177 := by decide +kernel
theorem c179_153 : (0 < 153 ∧ 153 < 900) ∧ amSt? 153 = true ∧ amNa 153 = 1 ∧ amRk 153 < amRk 179 := by decide +kernel
theorem c179_154 : (0 < 154 ∧ 154 < 900) ∧ amSt? 154 = true ∧ amNa 154 = 1 ∧ amRk 154 < amRk 179 := by decide +kernel
theorem c179_172 : (0 < 172 ∧ 172 < 900) ∧ amSt? 172 = true ∧ amNa 172 = 2 ∧ amRk 172 < amRk 179 := by decide +kernel
theorem c179_173 : (0 < 173 ∧ 173 < 900) ∧ amSt? 173 = true ∧ amNa 173 = 1 ∧ amRk 173 < amRk 179 := by decide +kernel
theorem c179_174 : (0 < 174 ∧ 174 < 900) ∧ amSt? 174 = true ∧ amNa 174 = 1 ∧ amRk 174 < amRk 179 := by decide +kernel
theorem c179_175 : (0 < 175 ∧ 175 < 900) ∧ amSt? 175 = false ∧ amNa 175 = 2 ∧ amRk 175 < amRk 179 := by decide +kernel
theorem c180_172 : (0 < 172 ∧ 172 < 900) ∧ amSt? 172 = true ∧ amNa 172 = 2 ∧ amRk 172 < amRk 180 := by decide +kernel
theorem c180_173 : (0 < 173 ∧ 173 < 900) ∧ amSt? 173 = true ∧ amNa 173 = 1 ∧ amRk 173 < amRk 180 := by decide +kernel
theorem c180_175 : (0 < 175 ∧ 175 < 900) ∧ amSt? 175 = false ∧ amNa 175 = 2 ∧ amRk 175 < amRk 180 := by decide +kernel
theorem c180_177 : (0 < 177 ∧ 177 < 900) ∧ amSt? 177 = true ∧ amNa 177 = 1 ∧ amRk 177 < amRk 180 := by decide +kernel
theorem c180_179 : (0 < 179 ∧ 179 < 900) ∧ amSt? 179 = false ∧ amNa 179 = 4 ∧ amRk 179 < amRk 180 := by decide +kernel
theorem c181_171 : (0 < 171 ∧ 171 < 900) ∧ amSt? 171 = true ∧ amNa 171 = 1 ∧ amRk 171 < amRk 181 := by decide +kernel
theorem c181_172 : (0 < 172 ∧ 172 < 900) ∧ amSt? 172 = true ∧ amNa 172 = 2 ∧ amRk 172 < amRk 181 := by decide +kernel
theorem c181_173 : (0 < 173 ∧ 173 < 900) ∧ amSt? 173 = true ∧ amNa 173 = 1 ∧ amRk 173 < amRk 181 := by decide +kernel
theorem c182_172 : (0 < 172 ∧ 172 < 900) ∧ amSt? 172 = true ∧ amNa 172 = 2 ∧ amRk 172 < amRk 182 := by decide +kernel
theorem c182_173 : (0 < 173 ∧ 173 < 900) ∧ amSt? 173 = true ∧ amNa 173 = 1 ∧ amRk 173 < amRk 182 := by decide +kernel
theorem c182_175 : (0 < 175 ∧ 175 < 900) ∧ amSt? 175 = false ∧ amNa 175 = 2 ∧ amRk 175 < amRk 182 := by decide +kernel
theorem c182_177 : (0 < 177 ∧ 177 < 900) ∧ amSt? 177 = true ∧ amNa 177 = 1 ∧ amRk 177 < amRk 182 := by decide +kernel
theorem c182_178 : (0 < 178 ∧ 178 < 900) ∧ amSt? 178 = true ∧ amNa 178 = 2 ∧ amRk 178 < amRk 182 := by decide +kernel
theorem c182_180 : (0 < 180 ∧ 180 < 900) ∧ amSt? 180 = false ∧ amNa 180 = 4 ∧ amRk 180 < amRk 182 := by decide +kernel
theorem c182_181 : (0 < 181 ∧ 181 < 900) ∧ amSt? 181 = false ∧ amNa 181 = 4 ∧ amRk 181 < amRk 182 := by decide +kernel
theorem c183_173 : (0 < 173 ∧ 173 < 900) ∧ amSt? 173 = true ∧ amNa 173 = 1 ∧ amRk 173 < amRk 183 := by decide +kernel
theorem c183_176 : (0 < 176 ∧ 176 < 900) ∧ amSt? 176 = true ∧ amNa 176 = 1 ∧ amRk 176 < amRk 183 := by decide +kernel
theorem c183_179 : (0 < 179 ∧ 179 < 900) ∧ amSt? 179 = false ∧ amNa 179 = 4 ∧ amRk 179 < amRk 183 := by decide +kernel
theorem c184_173 : (0 < 173 ∧ 173 < 900) ∧ amSt? 173 = true ∧ amNa 173 = 1 ∧ amRk 173 < amRk 184 := by decide +kernel
theorem c184_175 : (0 < 175 ∧ 175 < 900) ∧ amSt? 175 = false ∧ amNa 175 = 2 ∧ amRk 175 < amRk 184 := by decide +kernel
theorem c184_178 : (0 < 178 ∧ 178 < 900) ∧ amSt? 178 = true ∧ amNa 178 = 2 ∧ amRk 178 < amRk 184 := by decide +kernel
theorem c184_182 : (0 < 182 ∧ 182 < 900) ∧ amSt? 182 = false ∧ amNa 182 = 3 ∧ amRk 182 < amRk 184 := by decide +kernel
theorem c184_183 : (0 < 183 ∧ 183 < 900) ∧ amSt? 183 = false ∧ amNa 183 = 2 ∧ amRk 183 < amRk 184 := by decide +kernel
theorem c185_163 : (0 < 163 ∧ 163 < 900) ∧ amSt? 163 = false ∧ amNa 163 = 3 ∧ amRk 163 < amRk 185 := by decide +kernel
theorem c185_184 : (0 < 184 ∧ 184 < 900) ∧ amSt? 184 = false ∧ amNa 184 = 3 ∧ amRk 184 < amRk 185 := by decide +kernel
theorem c186_154 : (0 < 154 ∧ 154 < 900) ∧ amSt? 154 = true ∧ amNa 154 = 1 ∧ amRk 154 < amRk 186 := by decide +kernel
theorem c186_169 : (0 < 169 ∧ 169 < 900) ∧ amSt? 169 = true ∧ amNa 169 = 3 ∧ amRk 169 < amRk 186 := by decide +kernel
theorem c187_154 : (0 < 154 ∧ 154 < 900) ∧ amSt? 154 = true ∧ amNa 154 = 1 ∧ amRk 154 < amRk 187 := by decide +kernel
theorem c187_173 : (0 < 173 ∧ 173 < 900) ∧ amSt? 173 = true ∧ amNa 173 = 1 ∧ amRk 173 < amRk 187 := by decide +kernel
theorem c187_174 : (0 < 174 ∧ 174 < 900) ∧ amSt? 174 = true ∧ amNa 174 = 1 ∧ amRk 174 < amRk 187 := by decide +kernel
theorem c188_187 : (0 < 187 ∧ 187 < 900) ∧ amSt? 187 = false ∧ amNa 187 = 3 ∧ amRk 187 < amRk 188 := by decide +kernel
theorem c190_152 : (0 < 152 ∧ 152 < 900) ∧ amSt? 152 = true ∧ amNa 152 = 3 ∧ amRk 152 < amRk 190 := by decide +kernel
theorem c190_157 : (0 < 157 ∧ 157 < 900) ∧ amSt? 157 = false ∧ amNa 157 = 2 ∧ amRk 157 < amRk 190 := by decide +kernel
theorem c190_185 : (0 < 185 ∧ 185 < 900) ∧ amSt? 185 = false ∧ amNa 185 = 3 ∧ amRk 185 < amRk 190 := by decide +kernel
theorem c190_189 : (0 < 189 ∧ 189 < 900) ∧ amSt? 189 = false ∧ amNa 189 = 1 ∧ amRk 189 < amRk 190 := by decide +kernel
theorem c191_157 : (0 < 157 ∧ 157 < 900) ∧ amSt? 157 = false ∧ amNa 157 = 2 ∧ amRk 157 < amRk 191 := by decide +kernel
theorem c191_167 : (0 < 167 ∧ 167 < 900) ∧ amSt? 167 = true ∧ amNa 167 = 2 ∧ amRk 167 < amRk 191 := by decide +kernel
theorem c191_185 : (0 < 185 ∧ 185 < 900) ∧ amSt? 185 = false ∧ amNa 185 = 3 ∧ amRk 185 < amRk 191 := by decide +kernel
theorem c191_186 : (0 < 186 ∧ 186 < 900) ∧ amSt? 186 = false ∧ amNa 186 = 4 ∧ amRk 186 < amRk 191 := by decide +kernel
theorem c191_189 : (0 < 189 ∧ 189 < 900) ∧ amSt? 189 = false ∧ amNa 189 = 1 ∧ amRk 189 < amRk 191 := by decide +kernel
theorem c192_157 : (0 < 157 ∧ 157 < 900) ∧ amSt? 157 = false ∧ amNa 157 = 2 ∧ amRk 157 < amRk 192 := by decide +kernel
theorem c192_185 : (0 < 185 ∧ 185 < 900) ∧ amSt? 185 = false ∧ amNa 185 = 3 ∧ amRk 185 < amRk 192 := by decide +kernel
theorem c192_188 : (0 < 188 ∧ 188 < 900) ∧ amSt? 188 = false ∧ amNa 188 = 2 ∧ amRk 188 < amRk 192 := by decide +kernel
theorem c192_189 : (0 < 189 ∧ 189 < 900) ∧ amSt? 189 = false ∧ amNa 189 = 1 ∧ amRk 189 < amRk 192 := by decide +kernel
theorem c193_157 : (0 < 157 ∧ 157 < 900) ∧ amSt? 157 = false ∧ amNa 157 = 2 ∧ amRk 157 < amRk 193 := by decide +kernel
theorem c193_167 : (0 < 167 ∧ 167 < 900) ∧ amSt? 167 = true ∧ amNa 167 = 2 ∧ amRk 167 < amRk 193 := by decide +kernel
theorem c193_185 : (0 < 185 ∧ 185 < 900) ∧ amSt? 185 = false ∧ amNa 185 = 3 ∧ amRk 185 < amRk 193 := by decide +kernel
theorem c193_186 : (0 < 186 ∧ 186 < 900) ∧ amSt? 186 = false ∧ amNa 186 = 4 ∧ amRk 186 < amRk 193 := by decide +kernel
theorem c193_189 : (0 < 189 ∧ 189 < 900) ∧ amSt? 189 = false ∧ amNa 189 = 1 ∧ amRk 189 < amRk 193 := by decide +kernel
theorem c194_186 : (0 < 186 ∧ 186 < 900) ∧ amSt? 186 = false ∧ amNa 186 = 4 ∧ amRk 186 < amRk 194 := by decide +kernel
theorem c194_187 : (0 < 187 ∧ 187 < 900) ∧ amSt? 187 = false ∧ amNa 187 = 3 ∧ amRk 187 < amRk 194 := by decide +kernel
theorem c195_157 : (0 < 157 ∧ 157 < 900) ∧ amSt? 157 = false ∧ amNa 157 = 2 ∧ amRk 157 < amRk 195 := by decide +kernel
theorem c195_185 : (0 < 185 ∧ 185 < 900) ∧ amSt? 185 = false ∧ amNa 185 = 3 ∧ amRk 185 < amRk 195 := by decide +kernel
theorem c195_189 : (0 < 189 ∧ 189 < 900) ∧ amSt? 189 = false ∧ amNa 189 = 1 ∧ amRk 189 < amRk 195 := by decide +kernel
theorem c195_194 : (0 < 194 ∧ 194 < 900) ∧ amSt? 194 = false ∧ amNa 194 = 2 ∧ amRk 194 < amRk 195 := by decide +kernel
theorem c196_153 : (0 < 153 ∧ 153 < 900) ∧ amSt? 153 = true ∧ amNa 153 = 1 ∧ amRk 153 < amRk 196 := by decide +kernel
theorem c196_155 : (0 < 155 ∧ 155 < 900) ∧ amSt? 155 = true ∧ amNa 155 = 2 ∧ amRk 155 < amRk 196 := by decide +kernel
theorem c196_186 : (0 < 186 ∧ 186 < 900) ∧ amSt? 186 = false ∧ amNa 186 = 4 ∧ amRk 186 < amRk 196 := by decide +kernel
theorem c196_187 : (0 < 187 ∧ 187 < 900) ∧ amSt? 187 = false ∧ amNa 187 = 3 ∧ amRk 187 < amRk 196 := by decide +kernel
theorem c196_194 : (0 < 194 ∧ 194 < 900) ∧ amSt? 194 = false ∧ amNa 194 = 2 ∧ amRk 194 < amRk 196 := by decide +kernel
theorem c197_152 : (0 < 152 ∧ 152 < 900) ∧ amSt? 152 = true ∧ amNa 152 = 3 ∧ amRk 152 < amRk 197 := by decide +kernel
theorem c197_185 : (0 < 185 ∧ 185 < 900) ∧ amSt? 185 = false ∧ amNa 185 = 3 ∧ amRk 185 < amRk 197 := by decide +kernel
theorem c197_188 : (0 < 188 ∧ 188 < 900) ∧ amSt? 188 = false ∧ amNa 188 = 2 ∧ amRk 188 < amRk 197 := by decide +kernel
theorem c198_152 : (0 < 152 ∧ 152 < 900) ∧ amSt? 152 = true ∧ amNa 152 = 3 ∧ amRk 152 < amRk 198 := by decide +kernel
theorem c198_157 : (0 < 157 ∧ 157 < 900) ∧ amSt? 157 = false ∧ amNa 157 = 2 ∧ amRk 157 < amRk 198 := by decide +kernel
theorem c198_189 : (0 < 189 ∧ 189 < 900) ∧ amSt? 189 = false ∧ amNa 189 = 1 ∧ amRk 189 < amRk 198 := by decide +kernel
theorem c198_196 : (0 < 196 ∧ 196 < 900) ∧ amSt? 196 = false ∧ amNa 196 = 4 ∧ amRk 196 < amRk 198 := by decide +kernel
theorem c198_197 : (0 < 197 ∧ 197 < 900) ∧ amSt? 197 = false ∧ amNa 197 = 4 ∧ amRk 197 < amRk 198 := by decide +kernel
theorem c199_186 : (0 < 186 ∧ 186 < 900) ∧ amSt? 186 = false ∧ amNa 186 = 4 ∧ amRk 186 < amRk 199 := by decide +kernel
theorem c200_178 : (0 < 178 ∧ 178 < 900) ∧ amSt? 178 = true ∧ amNa 178 = 2 ∧ amRk 178 < amRk 200 := by decide +kernel
theorem c200_180 : (0 < 180 ∧ 180 < 900) ∧ amSt? 180 = false ∧ amNa 180 = 4 ∧ amRk 180 < amRk 200 := by decide +kernel
theorem c201_157 : (0 < 157 ∧ 157 < 900) ∧ amSt? 157 = false ∧ amNa 157 = 2 ∧ amRk 157 < amRk 201 := by decide +kernel
theorem c201_163 : (0 < 163 ∧ 163 < 900) ∧ amSt? 163 = false ∧ amNa 163 = 3 ∧ amRk 163 < amRk 201 := by decide +kernel
theorem c201_173 : (0 < 173 ∧ 173 < 900) ∧ amSt? 173 = true ∧ amNa 173 = 1 ∧ amRk 173 < amRk 201 := by decide +kernel
theorem c201_184 : (0 < 184 ∧ 184 < 900) ∧ amSt? 184 = false ∧ amNa 184 = 3 ∧ amRk 184 < amRk 201 := by decide +kernel
theorem c201_189 : (0 < 189 ∧ 189 < 900) ∧ amSt? 189 = false ∧ amNa 189 = 1 ∧ amRk 189 < amRk 201 := by decide +kernel
theorem c201_196 : (0 < 196 ∧ 196 < 900) ∧ amSt? 196 = false ∧ amNa 196 = 4 ∧ amRk 196 < amRk 201 := by decide +kernel
theorem c201_197 : (0 < 197 ∧ 197 < 900) ∧ amSt? 197 = false ∧ amNa 197 = 4 ∧ amRk 197 < amRk 201 := by decide +kernel
theorem c201_199 : (0 < 199 ∧ 199 < 900) ∧ amSt? 199 = false ∧ amNa 199 = 2 ∧ amRk 199 < amRk 201 := by decide +kernel
theorem c201_200 : (0 < 200 ∧ 200 < 900) ∧ amSt? 200 = false ∧ amNa 200 = 1 ∧ amRk 200 < amRk 201 := by decide +kernel
theorem c202_163 : (0 < 163 ∧ 163 < 900) ∧ amSt? 163 = false ∧ amNa 163 = 3 ∧ amRk 163 < amRk 202 := by decide +kernel
theorem c202_180 : (0 < 180 ∧ 180 < 900) ∧ amSt? 180 = false ∧ amNa 180 = 4 ∧ amRk 180 < amRk 202 := by decide +kernel
theorem c202_184 : (0 < 184 ∧ 184 < 900) ∧ amSt? 184 = false ∧ amNa 184 = 3 ∧ amRk 184 < amRk 202 := by decide +kernel
theorem c203_157 : (0 < 157 ∧ 157 < 900) ∧ amSt? 157 = false ∧ amNa 157 = 2 ∧ amRk 157 < amRk 203 := by decide +kernel
theorem c203_188 : (0 < 188 ∧ 188 < 900) ∧ amSt? 188 = false ∧ amNa 188 = 2 ∧ amRk 188 < amRk 203 := by decide +kernel
theorem c203_189 : (0 < 189 ∧ 189 < 900) ∧ amSt? 189 = false ∧ amNa 189 = 1 ∧ amRk 189 < amRk 203 := by decide +kernel
theorem c203_202 : (0 < 202 ∧ 202 < 900) ∧ amSt? 202 = false ∧ amNa 202 = 4 ∧ amRk 202 < amRk 203 := by decide +kernel
theorem c204_154 : (0 < 154 ∧ 154 < 900) ∧ amSt? 154 = true ∧ amNa 154 = 1 ∧ amRk 154 < amRk 204 := by decide +kernel
theorem c204_157 : (0 < 157 ∧ 157 < 900) ∧ amSt? 157 = false ∧ amNa 157 = 2 ∧ amRk 157 < amRk 204 := by decide +kernel
theorem c204_163 : (0 < 163 ∧ 163 < 900) ∧ amSt? 163 = false ∧ amNa 163 = 3 ∧ amRk 163 < amRk 204 := by decide +kernel
theorem c204_169 : (0 < 169 ∧ 169 < 900) ∧ amSt? 169 = true ∧ amNa 169 = 3 ∧ amRk 169 < amRk 204 := by decide +kernel
theorem c204_185 : (0 < 185 ∧ 185 < 900) ∧ amSt? 185 = false ∧ amNa 185 = 3 ∧ amRk 185 < amRk 204 := by decide +kernel
theorem c204_189 : (0 < 189 ∧ 189 < 900) ∧ amSt? 189 = false ∧ amNa 189 = 1 ∧ amRk 189 < amRk 204 := by decide +kernel
theorem c204_196 : (0 < 196 ∧ 196 < 900) ∧ amSt? 196 = false ∧ amNa 196 = 4 ∧ amRk 196 < amRk 204 := by decide +kernel
theorem c204_197 : (0 < 197 ∧ 197 < 900) ∧ amSt? 197 = false ∧ amNa 197 = 4 ∧ amRk 197 < amRk 204 := by decide +kernel
theorem c204_199 : (0 < 199 ∧ 199 < 900) ∧ amSt? 199 = false ∧ amNa 199 = 2 ∧ amRk 199 < amRk 204 := by decide +kernel
theorem c204_202 : (0 < 202 ∧ 202 < 900) ∧ amSt? 202 = false ∧ amNa 202 = 4 ∧ amRk 202 < amRk 204 := by decide +kernel
theorem c205_171 : (0 < 171 ∧ 171 < 900) ∧ amSt? 171 = true ∧ amNa 171 = 1 ∧ amRk 171 < amRk 205 := by decide +kernel
theorem c206_157 : (0 < 157 ∧ 157 < 900) ∧ amSt? 157 = false ∧ amNa 157 = 2 ∧ amRk 157 < amRk 206 := by decide +kernel
theorem c206_163 : (0 < 163 ∧ 163 < 900) ∧ amSt? 163 = false ∧ amNa 163 = 3 ∧ amRk 163 < amRk 206 := by decide +kernel
theorem c206_173 : (0 < 173 ∧ 173 < 900) ∧ amSt? 173 = true ∧ amNa 173 = 1 ∧ amRk 173 < amRk 206 := by decide +kernel
theorem c206_175 : (0 < 175 ∧ 175 < 900) ∧ amSt? 175 = false ∧ amNa 175 = 2 ∧ amRk 175 < amRk 206 := by decide +kernel
theorem c206_178 : (0 < 178 ∧ 178 < 900) ∧ amSt? 178 = true ∧ amNa 178 = 2 ∧ amRk 178 < amRk 206 := by decide +kernel
theorem c206_179 : (0 < 179 ∧ 179 < 900) ∧ amSt? 179 = false ∧ amNa 179 = 4 ∧ amRk 179 < amRk 206 := by decide +kernel
theorem c206_182 : (0 < 182 ∧ 182 < 900) ∧ amSt? 182 = false ∧ amNa 182 = 3 ∧ amRk 182 < amRk 206 := by decide +kernel
theorem c206_183 : (0 < 183 ∧ 183 < 900) ∧ amSt? 183 = false ∧ amNa 183 = 2 ∧ amRk 183 < amRk 206 := by decide +kernel
theorem c206_188 : (0 < 188 ∧ 188 < 900) ∧ amSt? 188 = false ∧ amNa 188 = 2 ∧ amRk 188 < amRk 206 := by decide +kernel
theorem c206_189 : (0 < 189 ∧ 189 < 900) ∧ amSt? 189 = false ∧ amNa 189 = 1 ∧ amRk 189 < amRk 206 := by decide +kernel
theorem c206_205 : (0 < 205 ∧ 205 < 900) ∧ amSt? 205 = true ∧ amNa 205 = 3 ∧ amRk 205 < amRk 206 := by decide +kernel
theorem c208_186 : (0 < 186 ∧ 186 < 900) ∧ amSt? 186 = false ∧ amNa 186 = 4 ∧ amRk 186 < amRk 208 := by decide +kernel
theorem c208_196 : (0 < 196 ∧ 196 < 900) ∧ amSt? 196 = false ∧ amNa 196 = 4 ∧ amRk 196 < amRk 208 := by decide +kernel
theorem c208_199 : (0 < 199 ∧ 199 < 900) ∧ amSt? 199 = false ∧ amNa 199 = 2 ∧ amRk 199 < amRk 208 := by decide +kernel
theorem c208_207 : (0 < 207 ∧ 207 < 900) ∧ amSt? 207 = false ∧ amNa 207 = 1 ∧ amRk 207 < amRk 208 := by decide +kernel
theorem c209_157 : (0 < 157 ∧ 157 < 900) ∧ amSt? 157 = false ∧ amNa 157 = 2 ∧ amRk 157 < amRk 209 := by decide +kernel
theorem c209_189 : (0 < 189 ∧ 189 < 900) ∧ amSt? 189 = false ∧ amNa 189 = 1 ∧ amRk 189 < amRk 209 := by decide +kernel
theorem c209_196 : (0 < 196 ∧ 196 < 900) ∧ amSt? 196 = false ∧ amNa 196 = 4 ∧ amRk 196 < amRk 209 := by decide +kernel
theorem c209_197 : (0 < 197 ∧ 197 < 900) ∧ amSt? 197 = false ∧ amNa 197 = 4 ∧ amRk 197 < amRk 209 := by decide +kernel
theorem c209_202 : (0 < 202 ∧ 202 < 900) ∧ amSt? 202 = false ∧ amNa 202 = 4 ∧ amRk 202 < amRk 209 := by decide +kernel
theorem c209_207 : (0 < 207 ∧ 207 < 900) ∧ amSt? 207 = false ∧ amNa 207 = 1 ∧ amRk 207 < amRk 209 := by decide +kernel
theorem c209_208 : (0 < 208 ∧ 208 < 900) ∧ amSt? 208 = false ∧ amNa 208 = 3 ∧ amRk 208 < amRk 209 := by decide +kernel
theorem c210_169 : (0 < 169 ∧ 169 < 900) ∧ amSt? 169 = true ∧ amNa 169 = 3 ∧ amRk 169 < amRk 210 := by decide +kernel
theorem c211_153 : (0 < 153 ∧ 153 < 900) ∧ amSt? 153 = true ∧ amNa 153 = 1 ∧ amRk 153 < amRk 211 := by decide +kernel
theorem c211_155 : (0 < 155 ∧ 155 < 900) ∧ amSt? 155 = true ∧ amNa 155 = 2 ∧ amRk 155 < amRk 211 := by decide +kernel
theorem c211_174 : (0 < 174 ∧ 174 < 900) ∧ amSt? 174 = true ∧ amNa 174 = 1 ∧ amRk 174 < amRk 211 := by decide +kernel
theorem c211_210 : (0 < 210 ∧ 210 < 900) ∧ amSt? 210 = false ∧ amNa 210 = 3 ∧ amRk 210 < amRk 211 := by decide +kernel
theorem c212_152 : (0 < 152 ∧ 152 < 900) ∧ amSt? 152 = true ∧ amNa 152 = 3 ∧ amRk 152 < amRk 212 := by decide +kernel
theorem c212_157 : (0 < 157 ∧ 157 < 900) ∧ amSt? 157 = false ∧ amNa 157 = 2 ∧ amRk 157 < amRk 212 := by decide +kernel
theorem c212_163 : (0 < 163 ∧ 163 < 900) ∧ amSt? 163 = false ∧ amNa 163 = 3 ∧ amRk 163 < amRk 212 := by decide +kernel
theorem c212_211 : (0 < 211 ∧ 211 < 900) ∧ amSt? 211 = false ∧ amNa 211 = 1 ∧ amRk 211 < amRk 212 := by decide +kernel
theorem c215_152 : (0 < 152 ∧ 152 < 900) ∧ amSt? 152 = true ∧ amNa 152 = 3 ∧ amRk 152 < amRk 215 := by decide +kernel
theorem c215_157 : (0 < 157 ∧ 157 < 900) ∧ amSt? 157 = false ∧ amNa 157 = 2 ∧ amRk 157 < amRk 215 := by decide +kernel
theorem c215_213 : (0 < 213 ∧ 213 < 900) ∧ amSt? 213 = true ∧ amNa 213 = 1 ∧ amRk 213 < amRk 215 := by decide +kernel
theorem c215_214 : (0 < 214 ∧ 214 < 900) ∧ amSt? 214 = true ∧ amNa 214 = 1 ∧ amRk 214 < amRk 215 := by decide +kernel
theorem c216_171 : (0 < 171 ∧ 171 < 900) ∧ amSt? 171 = true ∧ amNa 171 = 1 ∧ amRk 171 < amRk 216 := by decide +kernel
theorem c216_173 : (0 < 173 ∧ 173 < 900) ∧ amSt? 173 = true ∧ amNa 173 = 1 ∧ amRk 173 < amRk 216 := by decide +kernel
theorem c217_171 : (0 < 171 ∧ 171 < 900) ∧ amSt? 171 = true ∧ amNa 171 = 1 ∧ amRk 171 < amRk 217 := by decide +kernel
theorem c217_172 : (0 < 172 ∧ 172 < 900) ∧ amSt? 172 = true ∧ amNa 172 = 2 ∧ amRk 172 < amRk 217 := by decide +kernel
theorem c217_173 : (0 < 173 ∧ 173 < 900) ∧ amSt? 173 = true ∧ amNa 173 = 1 ∧ amRk 173 < amRk 217 := by decide +kernel
theorem c217_175 : (0 < 175 ∧ 175 < 900) ∧ amSt? 175 = false ∧ amNa 175 = 2 ∧ amRk 175 < amRk 217 := by decide +kernel
theorem c217_177 : (0 < 177 ∧ 177 < 900) ∧ amSt? 177 = true ∧ amNa 177 = 1 ∧ amRk 177 < amRk 217 := by decide +kernel
theorem c217_178 : (0 < 178 ∧ 178 < 900) ∧ amSt? 178 = true ∧ amNa 178 = 2 ∧ amRk 178 < amRk 217 := by decide +kernel
theorem c217_180 : (0 < 180 ∧ 180 < 900) ∧ amSt? 180 = false ∧ amNa 180 = 4 ∧ amRk 180 < amRk 217 := by decide +kernel
theorem c217_181 : (0 < 181 ∧ 181 < 900) ∧ amSt? 181 = false ∧ amNa 181 = 4 ∧ amRk 181 < amRk 217 := by decide +kernel
theorem c218_168 : (0 < 168 ∧ 168 < 900) ∧ amSt? 168 = true ∧ amNa 168 = 2 ∧ amRk 168 < amRk 218 := by decide +kernel
theorem c218_171 : (0 < 171 ∧ 171 < 900) ∧ amSt? 171 = true ∧ amNa 171 = 1 ∧ amRk 171 < amRk 218 := by decide +kernel
theorem c218_173 : (0 < 173 ∧ 173 < 900) ∧ amSt? 173 = true ∧ amNa 173 = 1 ∧ amRk 173 < amRk 218 := by decide +kernel
theorem c218_178 : (0 < 178 ∧ 178 < 900) ∧ amSt? 178 = true ∧ amNa 178 = 2 ∧ amRk 178 < amRk 218 := by decide +kernel
theorem c218_179 : (0 < 179 ∧ 179 < 900) ∧ amSt? 179 = false ∧ amNa 179 = 4 ∧ amRk 179 < amRk 218 := by decide +kernel
theorem c218_180 : (0 < 180 ∧ 180 < 900) ∧ amSt? 180 = false ∧ amNa 180 = 4 ∧ amRk 180 < amRk 218 := by decide +kernel
theorem c218_182 : (0 < 182 ∧ 182 < 900) ∧ amSt? 182 = false ∧ amNa 182 = 3 ∧ amRk 182 < amRk 218 := by decide +kernel
theorem c218_205 : (0 < 205 ∧ 205 < 900) ∧ amSt? 205 = true ∧ amNa 205 = 3 ∧ amRk 205 < amRk 218 := by decide +kernel
theorem c218_216 : (0 < 216 ∧ 216 < 900) ∧ amSt? 216 = false ∧ amNa 216 = 2 ∧ amRk 216 < amRk 218 := by decide +kernel
theorem c218_217 : (0 < 217 ∧ 217 < 900) ∧ amSt? 217 = false ∧ amNa 217 = 2 ∧ amRk 217 < amRk 218 := by decide +kernel
theorem c219_158 : (0 < 158 ∧ 158 < 900) ∧ amSt? 158 = false ∧ amNa 158 = 1 ∧ amRk 158 < amRk 219 := by decide +kernel
theorem c219_163 : (0 < 163 ∧ 163 < 900) ∧ amSt? 163 = false ∧ amNa 163 = 3 ∧ amRk 163 < amRk 219 := by decide +kernel
theorem c219_189 : (0 < 189 ∧ 189 < 900) ∧ amSt? 189 = false ∧ amNa 189 = 1 ∧ amRk 189 < amRk 219 := by decide +kernel
theorem c219_213 : (0 < 213 ∧ 213 < 900) ∧ amSt? 213 = true ∧ amNa 213 = 1 ∧ amRk 213 < amRk 219 := by decide +kernel
theorem c219_215 : (0 < 215 ∧ 215 < 900) ∧ amSt? 215 = false ∧ amNa 215 = 4 ∧ amRk 215 < amRk 219 := by decide +kernel
theorem c219_218 : (0 < 218 ∧ 218 < 900) ∧ amSt? 218 = false ∧ amNa 218 = 3 ∧ amRk 218 < amRk 219 := by decide +kernel
theorem c220_152 : (0 < 152 ∧ 152 < 900) ∧ amSt? 152 = true ∧ amNa 152 = 3 ∧ amRk 152 < amRk 220 := by decide +kernel
theorem c223_152 : (0 < 152 ∧ 152 < 900) ∧ amSt? 152 = true ∧ amNa 152 = 3 ∧ amRk 152 < amRk 223 := by decide +kernel
theorem c223_221 : (0 < 221 ∧ 221 < 900) ∧ amSt? 221 = false ∧ amNa 221 = 1 ∧ amRk 221 < amRk 223 := by decide +kernel
theorem c223_222 : (0 < 222 ∧ 222 < 900) ∧ amSt? 222 = false ∧ amNa 222 = 2 ∧ amRk 222 < amRk 223 := by decide +kernel
theorem c224_171 : (0 < 171 ∧ 171 < 900) ∧ amSt? 171 = true ∧ amNa 171 = 1 ∧ amRk 171 < amRk 224 := by decide +kernel
theorem c224_221 : (0 < 221 ∧ 221 < 900) ∧ amSt? 221 = false ∧ amNa 221 = 1 ∧ amRk 221 < amRk 224 := by decide +kernel
theorem c224_223 : (0 < 223 ∧ 223 < 900) ∧ amSt? 223 = false ∧ amNa 223 = 2 ∧ amRk 223 < amRk 224 := by decide +kernel
theorem c225_226 : (0 < 226 ∧ 226 < 900) ∧ amSt? 226 = false ∧ amNa 226 = 4 ∧ amRk 226 < amRk 225 := by decide +kernel
theorem c227_225 : (0 < 225 ∧ 225 < 900) ∧ amSt? 225 = false ∧ amNa 225 = 9 ∧ amRk 225 < amRk 227 := by decide +kernel
theorem c228_152 : (0 < 152 ∧ 152 < 900) ∧ amSt? 152 = true ∧ amNa 152 = 3 ∧ amRk 152 < amRk 228 := by decide +kernel
theorem c228_221 : (0 < 221 ∧ 221 < 900) ∧ amSt? 221 = false ∧ amNa 221 = 1 ∧ amRk 221 < amRk 228 := by decide +kernel
theorem c228_222 : (0 < 222 ∧ 222 < 900) ∧ amSt? 222 = false ∧ amNa 222 = 2 ∧ amRk 222 < amRk 228 := by decide +kernel
theorem c229_152 : (0 < 152 ∧ 152 < 900) ∧ amSt? 152 = true ∧ amNa 152 = 3 ∧ amRk 152 < amRk 229 := by decide +kernel
theorem c229_213 : (0 < 213 ∧ 213 < 900) ∧ amSt? 213 = true ∧ amNa 213 = 1 ∧ amRk 213 < amRk 229 := by decide +kernel
theorem c229_214 : (0 < 214 ∧ 214 < 900) ∧ amSt? 214 = true ∧ amNa 214 = 1 ∧ amRk 214 < amRk 229 := by decide +kernel
theorem c229_221 : (0 < 221 ∧ 221 < 900) ∧ amSt? 221 = false ∧ amNa 221 = 1 ∧ amRk 221 < amRk 229 := by decide +kernel
theorem c229_222 : (0 < 222 ∧ 222 < 900) ∧ amSt? 222 = false ∧ amNa 222 = 2 ∧ amRk 222 < amRk 229 := by decide +kernel
theorem c229_224 : (0 < 224 ∧ 224 < 900) ∧ amSt? 224 = false ∧ amNa 224 = 1 ∧ amRk 224 < amRk 229 := by decide +kernel
theorem c229_227 : (0 < 227 ∧ 227 < 900) ∧ amSt? 227 = false ∧ amNa 227 = 2 ∧ amRk 227 < amRk 229 := by decide +kernel
theorem c229_228 : (0 < 228 ∧ 228 < 900) ∧ amSt? 228 = false ∧ amNa 228 = 2 ∧ amRk 228 < amRk 229 := by decide +kernel
theorem c230_158 : (0 < 158 ∧ 158 < 900) ∧ amSt? 158 = false ∧ amNa 158 = 1 ∧ amRk 158 < amRk 230 := by decide +kernel
theorem c230_189 : (0 < 189 ∧ 189 < 900) ∧ amSt? 189 = false ∧ amNa 189 = 1 ∧ amRk 189 < amRk 230 := by decide +kernel
theorem c230_219 : (0 < 219 ∧ 219 < 900) ∧ amSt? 219 = false ∧ amNa 219 = 4 ∧ amRk 219 < amRk 230 := by decide +kernel
theorem c230_221 : (0 < 221 ∧ 221 < 900) ∧ amSt? 221 = false ∧ amNa 221 = 1 ∧ amRk 221 < amRk 230 := by decide +kernel
theorem c230_222 : (0 < 222 ∧ 222 < 900) ∧ amSt? 222 = false ∧ amNa 222 = 2 ∧ amRk 222 < amRk 230 := by decide +kernel
theorem c230_229 : (0 < 229 ∧ 229 < 900) ∧ amSt? 229 = false ∧ amNa 229 = 1 ∧ amRk 229 < amRk 230 := by decide +kernel
theorem c231_230 : (0 < 230 ∧ 230 < 900) ∧ amSt? 230 = false ∧ amNa 230 = 2 ∧ amRk 230 < amRk 231 := by decide +kernel
theorem c233_232 : (0 < 232 ∧ 232 < 900) ∧ amSt? 232 = false ∧ amNa 232 = 2 ∧ amRk 232 < amRk 233 := by decide +kernel
theorem c233_248 : (0 < 248 ∧ 248 < 900) ∧ amSt? 248 = false ∧ amNa 248 = 2 ∧ amRk 248 < amRk 233 := by decide +kernel
theorem c234_157 : (0 < 157 ∧ 157 < 900) ∧ amSt? 157 = false ∧ amNa 157 = 2 ∧ amRk 157 < amRk 234 := by decide +kernel
theorem c234_232 : (0 < 232 ∧ 232 < 900) ∧ amSt? 232 = false ∧ amNa 232 = 2 ∧ amRk 232 < amRk 234 := by decide +kernel
theorem c234_233 : (0 < 233 ∧ 233 < 900) ∧ amSt? 233 = false ∧ amNa 233 = 2 ∧ amRk 233 < amRk 234 := by decide +kernel
theorem c236_167 : (0 < 167 ∧ 167 < 900) ∧ amSt? 167 = true ∧ amNa 167 = 2 ∧ amRk 167 < amRk 236 := by decide +kernel
theorem c236_186 : (0 < 186 ∧ 186 < 900) ∧ amSt? 186 = false ∧ amNa 186 = 4 ∧ amRk 186 < amRk 236 := by decide +kernel
theorem c236_187 : (0 < 187 ∧ 187 < 900) ∧ amSt? 187 = false ∧ amNa 187 = 3 ∧ amRk 187 < amRk 236 := by decide +kernel
theorem c237_157 : (0 < 157 ∧ 157 < 900) ∧ amSt? 157 = false ∧ amNa 157 = 2 ∧ amRk 157 < amRk 237 := by decide +kernel
theorem c237_185 : (0 < 185 ∧ 185 < 900) ∧ amSt? 185 = false ∧ amNa 185 = 3 ∧ amRk 185 < amRk 237 := by decide +kernel
theorem c237_188 : (0 < 188 ∧ 188 < 900) ∧ amSt? 188 = false ∧ amNa 188 = 2 ∧ amRk 188 < amRk 237 := by decide +kernel
theorem c237_189 : (0 < 189 ∧ 189 < 900) ∧ amSt? 189 = false ∧ amNa 189 = 1 ∧ amRk 189 < amRk 237 := by decide +kernel
theorem c237_236 : (0 < 236 ∧ 236 < 900) ∧ amSt? 236 = false ∧ amNa 236 = 3 ∧ amRk 236 < amRk 237 := by decide +kernel
theorem c237_240 : (0 < 240 ∧ 240 < 900) ∧ amSt? 240 = true ∧ amNa 240 = 1 ∧ amRk 240 < amRk 237 := by decide +kernel
theorem c239_152 : (0 < 152 ∧ 152 < 900) ∧ amSt? 152 = true ∧ amNa 152 = 3 ∧ amRk 152 < amRk 239 := by decide +kernel
theorem c239_171 : (0 < 171 ∧ 171 < 900) ∧ amSt? 171 = true ∧ amNa 171 = 1 ∧ amRk 171 < amRk 239 := by decide +kernel
theorem c239_184 : (0 < 184 ∧ 184 < 900) ∧ amSt? 184 = false ∧ amNa 184 = 3 ∧ amRk 184 < amRk 239 := by decide +kernel
theorem c239_188 : (0 < 188 ∧ 188 < 900) ∧ amSt? 188 = false ∧ amNa 188 = 2 ∧ amRk 188 < amRk 239 := by decide +kernel
theorem c239_189 : (0 < 189 ∧ 189 < 900) ∧ amSt? 189 = false ∧ amNa 189 = 1 ∧ amRk 189 < amRk 239 := by decide +kernel
theorem c239_238 : (0 < 238 ∧ 238 < 900) ∧ amSt? 238 = false ∧ amNa 238 = 2 ∧ amRk 238 < amRk 239 := by decide +kernel
theorem c240_152 : (0 < 152 ∧ 152 < 900) ∧ amSt? 152 = true ∧ amNa 152 = 3 ∧ amRk 152 < amRk 240 := by decide +kernel
theorem c241_240 : (0 < 240 ∧ 240 < 900) ∧ amSt? 240 = true ∧ amNa 240 = 1 ∧ amRk 240 < amRk 241 := by decide +kernel
theorem c242_152 : (0 < 152 ∧ 152 < 900) ∧ amSt? 152 = true ∧ amNa 152 = 3 ∧ amRk 152 < amRk 242 := by decide +kernel
theorem c242_240 : (0 < 240 ∧ 240 < 900) ∧ amSt? 240 = true ∧ amNa 240 = 1 ∧ amRk 240 < amRk 242 := by decide +kernel
theorem c243_152 : (0 < 152 ∧ 152 < 900) ∧ amSt? 152 = true ∧ amNa 152 = 3 ∧ amRk 152 < amRk 243 := by decide +kernel
theorem c243_240 : (0 < 240 ∧ 240 < 900) ∧ amSt? 240 = true ∧ amNa 240 = 1 ∧ amRk 240 < amRk 243 := by decide +kernel
theorem c244_157 : (0 < 157 ∧ 157 < 900) ∧ amSt? 157 = false ∧ amNa 157 = 2 ∧ amRk 157 < amRk 244 := by decide +kernel
theorem c244_240 : (0 < 240 ∧ 240 < 900) ∧ amSt? 240 = true ∧ amNa 240 = 1 ∧ amRk 240 < amRk 244 := by decide +kernel
theorem c248_232 : (0 < 232 ∧ 232 < 900) ∧ amSt? 232 = false ∧ amNa 232 = 2 ∧ amRk 232 < amRk 248 := by decide +kernel
theorem c248_249 : (0 < 249 ∧ 249 < 900) ∧ amSt? 249 = false ∧ amNa 249 = 2 ∧ amRk 249 < amRk 248 := by decide +kernel
theorem c249_232 : (0 < 232 ∧ 232 < 900) ∧ amSt? 232 = false ∧ amNa 232 = 2 ∧ amRk 232 < amRk 249 := by decide +kernel
