/-! the world behind both constructors -/
def cw_I0 (c k : Nat) : Int32 := if c = 33 ∧ k = 9 then 10000 else if c = 33 ∧ k = 10 then -1 else if c = 33 ∧ k = 11 then -1 else if c = 68 ∧ k = 17 then -1 else 0
def cw_A0 (c j : Nat) : Int32 := if c = 97 then (if j < 4 then -1 else 0) else 0
def cw_J0 (c j : Nat) : Int64 := if c = 75 then ([626, 399652, 13467145, 131638, 11450658, 249, 1111, 40477, 168984, 2968, 237307, 985, 8815221, 10284818, 209256620] : List Int64).getD j 0 else 0
def ia_K (g : cw_G) : Nat → Nat × Nat := cw_kp (fun _ => (0, 0)) 0 (11, 0)
def ia_V (g : cw_G) : Nat → Nat → Value := cw_kp (fun _ _ => .null) 0 (fun j => defaultValue (tyX11 j))
def ib_K (g : cw_G) : Nat → Nat × Nat := kK_X11_init_0 g (ia_K g) (ia_V g) (fun _ _ => 0) (fun _ _ => 0)
def ib_V (g : cw_G) : Nat → Nat → Value := kV_X11_init_0 g (ia_K g) (ia_V g) (fun _ _ => 0) (fun _ _ => 0)
def ib_A (g : cw_G) : Nat → Nat → Int32 := kA_X11_init_0 g (ia_K g) (ia_V g) (fun _ _ => 0) (fun _ _ => 0)
def ib_J (g : cw_G) : Nat → Nat → Int64 := kJ_X11_init_0 g (ia_K g) (ia_V g) (fun _ _ => 0) (fun _ _ => 0)
def ic_K (g : cw_G) : Nat → Nat × Nat := cw_kp (ib_K g) 68 (12, 0)
def ic_V (g : cw_G) : Nat → Nat → Value := cw_kp (ib_V g) 68 (fun j => defaultValue (tyX12 j))
def id_K (g : cw_G) : Nat → Nat × Nat := kK_X12_init_68 g (ic_K g) (ic_V g) (ib_A g) (ib_J g)
def id_V (g : cw_G) : Nat → Nat → Value := kV_X12_init_68 g (ic_K g) (ic_V g) (ib_A g) (ib_J g)
def id_A (g : cw_G) : Nat → Nat → Int32 := kA_X12_init_68 g (ic_K g) (ic_V g) (ib_A g) (ib_J g)
def id_J (g : cw_G) : Nat → Nat → Int64 := kJ_X12_init_68 g (ic_K g) (ic_V g) (ib_A g) (ib_J g)
set_option maxRecDepth 100000 in
set_option maxHeartbeats 4000000 in
theorem ie_K (g : cw_G) : ∀ c, c < 120 → id_K g c = cw_K0 c := by
  refine lt_s (p := fun c => id_K g c = cw_K0 c) (i := 119) ?_ rfl
  refine lt_s (p := fun c => id_K g c = cw_K0 c) (i := 118) ?_ rfl
  refine lt_s (p := fun c => id_K g c = cw_K0 c) (i := 117) ?_ rfl
  refine lt_s (p := fun c => id_K g c = cw_K0 c) (i := 116) ?_ rfl
  refine lt_s (p := fun c => id_K g c = cw_K0 c) (i := 115) ?_ rfl
  refine lt_s (p := fun c => id_K g c = cw_K0 c) (i := 114) ?_ rfl
  refine lt_s (p := fun c => id_K g c = cw_K0 c) (i := 113) ?_ rfl
  refine lt_s (p := fun c => id_K g c = cw_K0 c) (i := 112) ?_ rfl
  refine lt_s (p := fun c => id_K g c = cw_K0 c) (i := 111) ?_ rfl
  refine lt_s (p := fun c => id_K g c = cw_K0 c) (i := 110) ?_ rfl
  refine lt_s (p := fun c => id_K g c = cw_K0 c) (i := 109) ?_ rfl
  refine lt_s (p := fun c => id_K g c = cw_K0 c) (i := 108) ?_ rfl
  refine lt_s (p := fun c => id_K g c = cw_K0 c) (i := 107) ?_ rfl
  refine lt_s (p := fun c => id_K g c = cw_K0 c) (i := 106) ?_ rfl
  refine lt_s (p := fun c => id_K g c = cw_K0 c) (i := 105) ?_ rfl
  refine lt_s (p := fun c => id_K g c = cw_K0 c) (i := 104) ?_ rfl
  refine lt_s (p := fun c => id_K g c = cw_K0 c) (i := 103) ?_ rfl
  refine lt_s (p := fun c => id_K g c = cw_K0 c) (i := 102) ?_ rfl
  refine lt_s (p := fun c => id_K g c = cw_K0 c) (i := 101) ?_ rfl
  refine lt_s (p := fun c => id_K g c = cw_K0 c) (i := 100) ?_ rfl
  refine lt_s (p := fun c => id_K g c = cw_K0 c) (i := 99) ?_ rfl
  refine lt_s (p := fun c => id_K g c = cw_K0 c) (i := 98) ?_ rfl
  refine lt_s (p := fun c => id_K g c = cw_K0 c) (i := 97) ?_ rfl
  refine lt_s (p := fun c => id_K g c = cw_K0 c) (i := 96) ?_ rfl
  refine lt_s (p := fun c => id_K g c = cw_K0 c) (i := 95) ?_ rfl
  refine lt_s (p := fun c => id_K g c = cw_K0 c) (i := 94) ?_ rfl
  refine lt_s (p := fun c => id_K g c = cw_K0 c) (i := 93) ?_ rfl
  refine lt_s (p := fun c => id_K g c = cw_K0 c) (i := 92) ?_ rfl
  refine lt_s (p := fun c => id_K g c = cw_K0 c) (i := 91) ?_ rfl
  refine lt_s (p := fun c => id_K g c = cw_K0 c) (i := 90) ?_ rfl
  refine lt_s (p := fun c => id_K g c = cw_K0 c) (i := 89) ?_ rfl
  refine lt_s (p := fun c => id_K g c = cw_K0 c) (i := 88) ?_ rfl
  refine lt_s (p := fun c => id_K g c = cw_K0 c) (i := 87) ?_ rfl
  refine lt_s (p := fun c => id_K g c = cw_K0 c) (i := 86) ?_ rfl
  refine lt_s (p := fun c => id_K g c = cw_K0 c) (i := 85) ?_ rfl
  refine lt_s (p := fun c => id_K g c = cw_K0 c) (i := 84) ?_ rfl
  refine lt_s (p := fun c => id_K g c = cw_K0 c) (i := 83) ?_ rfl
  refine lt_s (p := fun c => id_K g c = cw_K0 c) (i := 82) ?_ rfl
  refine lt_s (p := fun c => id_K g c = cw_K0 c) (i := 81) ?_ rfl
  refine lt_s (p := fun c => id_K g c = cw_K0 c) (i := 80) ?_ rfl
  refine lt_s (p := fun c => id_K g c = cw_K0 c) (i := 79) ?_ rfl
  refine lt_s (p := fun c => id_K g c = cw_K0 c) (i := 78) ?_ rfl
  refine lt_s (p := fun c => id_K g c = cw_K0 c) (i := 77) ?_ rfl
  refine lt_s (p := fun c => id_K g c = cw_K0 c) (i := 76) ?_ rfl
  refine lt_s (p := fun c => id_K g c = cw_K0 c) (i := 75) ?_ rfl
  refine lt_s (p := fun c => id_K g c = cw_K0 c) (i := 74) ?_ rfl
  refine lt_s (p := fun c => id_K g c = cw_K0 c) (i := 73) ?_ rfl
  refine lt_s (p := fun c => id_K g c = cw_K0 c) (i := 72) ?_ rfl
  refine lt_s (p := fun c => id_K g c = cw_K0 c) (i := 71) ?_ rfl
  refine lt_s (p := fun c => id_K g c = cw_K0 c) (i := 70) ?_ rfl
  refine lt_s (p := fun c => id_K g c = cw_K0 c) (i := 69) ?_ rfl
  refine lt_s (p := fun c => id_K g c = cw_K0 c) (i := 68) ?_ rfl
  refine lt_s (p := fun c => id_K g c = cw_K0 c) (i := 67) ?_ rfl
  refine lt_s (p := fun c => id_K g c = cw_K0 c) (i := 66) ?_ rfl
  refine lt_s (p := fun c => id_K g c = cw_K0 c) (i := 65) ?_ rfl
  refine lt_s (p := fun c => id_K g c = cw_K0 c) (i := 64) ?_ rfl
  refine lt_s (p := fun c => id_K g c = cw_K0 c) (i := 63) ?_ rfl
  refine lt_s (p := fun c => id_K g c = cw_K0 c) (i := 62) ?_ rfl
  refine lt_s (p := fun c => id_K g c = cw_K0 c) (i := 61) ?_ rfl
  refine lt_s (p := fun c => id_K g c = cw_K0 c) (i := 60) ?_ rfl
  refine lt_s (p := fun c => id_K g c = cw_K0 c) (i := 59) ?_ rfl
  refine lt_s (p := fun c => id_K g c = cw_K0 c) (i := 58) ?_ rfl
  refine lt_s (p := fun c => id_K g c = cw_K0 c) (i := 57) ?_ rfl
  refine lt_s (p := fun c => id_K g c = cw_K0 c) (i := 56) ?_ rfl
  refine lt_s (p := fun c => id_K g c = cw_K0 c) (i := 55) ?_ rfl
  refine lt_s (p := fun c => id_K g c = cw_K0 c) (i := 54) ?_ rfl
  refine lt_s (p := fun c => id_K g c = cw_K0 c) (i := 53) ?_ rfl
  refine lt_s (p := fun c => id_K g c = cw_K0 c) (i := 52) ?_ rfl
  refine lt_s (p := fun c => id_K g c = cw_K0 c) (i := 51) ?_ rfl
  refine lt_s (p := fun c => id_K g c = cw_K0 c) (i := 50) ?_ rfl
  refine lt_s (p := fun c => id_K g c = cw_K0 c) (i := 49) ?_ rfl
  refine lt_s (p := fun c => id_K g c = cw_K0 c) (i := 48) ?_ rfl
  refine lt_s (p := fun c => id_K g c = cw_K0 c) (i := 47) ?_ rfl
  refine lt_s (p := fun c => id_K g c = cw_K0 c) (i := 46) ?_ rfl
  refine lt_s (p := fun c => id_K g c = cw_K0 c) (i := 45) ?_ rfl
  refine lt_s (p := fun c => id_K g c = cw_K0 c) (i := 44) ?_ rfl
  refine lt_s (p := fun c => id_K g c = cw_K0 c) (i := 43) ?_ rfl
  refine lt_s (p := fun c => id_K g c = cw_K0 c) (i := 42) ?_ rfl
  refine lt_s (p := fun c => id_K g c = cw_K0 c) (i := 41) ?_ rfl
  refine lt_s (p := fun c => id_K g c = cw_K0 c) (i := 40) ?_ rfl
  refine lt_s (p := fun c => id_K g c = cw_K0 c) (i := 39) ?_ rfl
  refine lt_s (p := fun c => id_K g c = cw_K0 c) (i := 38) ?_ rfl
  refine lt_s (p := fun c => id_K g c = cw_K0 c) (i := 37) ?_ rfl
  refine lt_s (p := fun c => id_K g c = cw_K0 c) (i := 36) ?_ rfl
  refine lt_s (p := fun c => id_K g c = cw_K0 c) (i := 35) ?_ rfl
  refine lt_s (p := fun c => id_K g c = cw_K0 c) (i := 34) ?_ rfl
  refine lt_s (p := fun c => id_K g c = cw_K0 c) (i := 33) ?_ rfl
  refine lt_s (p := fun c => id_K g c = cw_K0 c) (i := 32) ?_ rfl
  refine lt_s (p := fun c => id_K g c = cw_K0 c) (i := 31) ?_ rfl
  refine lt_s (p := fun c => id_K g c = cw_K0 c) (i := 30) ?_ rfl
  refine lt_s (p := fun c => id_K g c = cw_K0 c) (i := 29) ?_ rfl
  refine lt_s (p := fun c => id_K g c = cw_K0 c) (i := 28) ?_ rfl
  refine lt_s (p := fun c => id_K g c = cw_K0 c) (i := 27) ?_ rfl
  refine lt_s (p := fun c => id_K g c = cw_K0 c) (i := 26) ?_ rfl
  refine lt_s (p := fun c => id_K g c = cw_K0 c) (i := 25) ?_ rfl
  refine lt_s (p := fun c => id_K g c = cw_K0 c) (i := 24) ?_ rfl
  refine lt_s (p := fun c => id_K g c = cw_K0 c) (i := 23) ?_ rfl
  refine lt_s (p := fun c => id_K g c = cw_K0 c) (i := 22) ?_ rfl
  refine lt_s (p := fun c => id_K g c = cw_K0 c) (i := 21) ?_ rfl
  refine lt_s (p := fun c => id_K g c = cw_K0 c) (i := 20) ?_ rfl
  refine lt_s (p := fun c => id_K g c = cw_K0 c) (i := 19) ?_ rfl
  refine lt_s (p := fun c => id_K g c = cw_K0 c) (i := 18) ?_ rfl
  refine lt_s (p := fun c => id_K g c = cw_K0 c) (i := 17) ?_ rfl
  refine lt_s (p := fun c => id_K g c = cw_K0 c) (i := 16) ?_ rfl
  refine lt_s (p := fun c => id_K g c = cw_K0 c) (i := 15) ?_ rfl
  refine lt_s (p := fun c => id_K g c = cw_K0 c) (i := 14) ?_ rfl
  refine lt_s (p := fun c => id_K g c = cw_K0 c) (i := 13) ?_ rfl
  refine lt_s (p := fun c => id_K g c = cw_K0 c) (i := 12) ?_ rfl
  refine lt_s (p := fun c => id_K g c = cw_K0 c) (i := 11) ?_ rfl
  refine lt_s (p := fun c => id_K g c = cw_K0 c) (i := 10) ?_ rfl
  refine lt_s (p := fun c => id_K g c = cw_K0 c) (i := 9) ?_ rfl
  refine lt_s (p := fun c => id_K g c = cw_K0 c) (i := 8) ?_ rfl
  refine lt_s (p := fun c => id_K g c = cw_K0 c) (i := 7) ?_ rfl
  refine lt_s (p := fun c => id_K g c = cw_K0 c) (i := 6) ?_ rfl
  refine lt_s (p := fun c => id_K g c = cw_K0 c) (i := 5) ?_ rfl
  refine lt_s (p := fun c => id_K g c = cw_K0 c) (i := 4) ?_ rfl
  refine lt_s (p := fun c => id_K g c = cw_K0 c) (i := 3) ?_ rfl
  refine lt_s (p := fun c => id_K g c = cw_K0 c) (i := 2) ?_ rfl
  refine lt_s (p := fun c => id_K g c = cw_K0 c) (i := 1) ?_ rfl
  refine lt_s (p := fun c => id_K g c = cw_K0 c) (i := 0) ?_ rfl
  exact lt_0
set_option maxRecDepth 100000 in
set_option maxHeartbeats 4000000 in
theorem ie_A (g : cw_G) : ∀ c, c < 120 → (c = 97 ∨ ∀ j, id_A g c j = 0) := by
  refine lt_s (p := fun c => c = 97 ∨ ∀ j, id_A g c j = 0) (i := 119) ?_ (Or.inr (fun _ => rfl))
  refine lt_s (p := fun c => c = 97 ∨ ∀ j, id_A g c j = 0) (i := 118) ?_ (Or.inr (fun _ => rfl))
  refine lt_s (p := fun c => c = 97 ∨ ∀ j, id_A g c j = 0) (i := 117) ?_ (Or.inr (fun _ => rfl))
  refine lt_s (p := fun c => c = 97 ∨ ∀ j, id_A g c j = 0) (i := 116) ?_ (Or.inr (fun _ => rfl))
  refine lt_s (p := fun c => c = 97 ∨ ∀ j, id_A g c j = 0) (i := 115) ?_ (Or.inr (fun _ => rfl))
  refine lt_s (p := fun c => c = 97 ∨ ∀ j, id_A g c j = 0) (i := 114) ?_ (Or.inr (fun _ => rfl))
  refine lt_s (p := fun c => c = 97 ∨ ∀ j, id_A g c j = 0) (i := 113) ?_ (Or.inr (fun _ => rfl))
  refine lt_s (p := fun c => c = 97 ∨ ∀ j, id_A g c j = 0) (i := 112) ?_ (Or.inr (fun _ => rfl))
  refine lt_s (p := fun c => c = 97 ∨ ∀ j, id_A g c j = 0) (i := 111) ?_ (Or.inr (fun _ => rfl))
  refine lt_s (p := fun c => c = 97 ∨ ∀ j, id_A g c j = 0) (i := 110) ?_ (Or.inr (fun _ => rfl))
  refine lt_s (p := fun c => c = 97 ∨ ∀ j, id_A g c j = 0) (i := 109) ?_ (Or.inr (fun _ => rfl))
  refine lt_s (p := fun c => c = 97 ∨ ∀ j, id_A g c j = 0) (i := 108) ?_ (Or.inr (fun _ => rfl))
  refine lt_s (p := fun c => c = 97 ∨ ∀ j, id_A g c j = 0) (i := 107) ?_ (Or.inr (fun _ => rfl))
  refine lt_s (p := fun c => c = 97 ∨ ∀ j, id_A g c j = 0) (i := 106) ?_ (Or.inr (fun _ => rfl))
  refine lt_s (p := fun c => c = 97 ∨ ∀ j, id_A g c j = 0) (i := 105) ?_ (Or.inr (fun _ => rfl))
  refine lt_s (p := fun c => c = 97 ∨ ∀ j, id_A g c j = 0) (i := 104) ?_ (Or.inr (fun _ => rfl))
  refine lt_s (p := fun c => c = 97 ∨ ∀ j, id_A g c j = 0) (i := 103) ?_ (Or.inr (fun _ => rfl))
  refine lt_s (p := fun c => c = 97 ∨ ∀ j, id_A g c j = 0) (i := 102) ?_ (Or.inr (fun _ => rfl))
  refine lt_s (p := fun c => c = 97 ∨ ∀ j, id_A g c j = 0) (i := 101) ?_ (Or.inr (fun _ => rfl))
  refine lt_s (p := fun c => c = 97 ∨ ∀ j, id_A g c j = 0) (i := 100) ?_ (Or.inr (fun _ => rfl))
  refine lt_s (p := fun c => c = 97 ∨ ∀ j, id_A g c j = 0) (i := 99) ?_ (Or.inr (fun _ => rfl))
  refine lt_s (p := fun c => c = 97 ∨ ∀ j, id_A g c j = 0) (i := 98) ?_ (Or.inr (fun _ => rfl))
  refine lt_s (p := fun c => c = 97 ∨ ∀ j, id_A g c j = 0) (i := 97) ?_ (Or.inl rfl)
  refine lt_s (p := fun c => c = 97 ∨ ∀ j, id_A g c j = 0) (i := 96) ?_ (Or.inr (fun _ => rfl))
  refine lt_s (p := fun c => c = 97 ∨ ∀ j, id_A g c j = 0) (i := 95) ?_ (Or.inr (fun _ => rfl))
  refine lt_s (p := fun c => c = 97 ∨ ∀ j, id_A g c j = 0) (i := 94) ?_ (Or.inr (fun _ => rfl))
  refine lt_s (p := fun c => c = 97 ∨ ∀ j, id_A g c j = 0) (i := 93) ?_ (Or.inr (fun _ => rfl))
  refine lt_s (p := fun c => c = 97 ∨ ∀ j, id_A g c j = 0) (i := 92) ?_ (Or.inr (fun _ => rfl))
  refine lt_s (p := fun c => c = 97 ∨ ∀ j, id_A g c j = 0) (i := 91) ?_ (Or.inr (fun _ => rfl))
  refine lt_s (p := fun c => c = 97 ∨ ∀ j, id_A g c j = 0) (i := 90) ?_ (Or.inr (fun _ => rfl))
  refine lt_s (p := fun c => c = 97 ∨ ∀ j, id_A g c j = 0) (i := 89) ?_ (Or.inr (fun _ => rfl))
  refine lt_s (p := fun c => c = 97 ∨ ∀ j, id_A g c j = 0) (i := 88) ?_ (Or.inr (fun _ => rfl))
  refine lt_s (p := fun c => c = 97 ∨ ∀ j, id_A g c j = 0) (i := 87) ?_ (Or.inr (fun _ => rfl))
  refine lt_s (p := fun c => c = 97 ∨ ∀ j, id_A g c j = 0) (i := 86) ?_ (Or.inr (fun _ => rfl))
  refine lt_s (p := fun c => c = 97 ∨ ∀ j, id_A g c j = 0) (i := 85) ?_ (Or.inr (fun _ => rfl))
  refine lt_s (p := fun c => c = 97 ∨ ∀ j, id_A g c j = 0) (i := 84) ?_ (Or.inr (fun _ => rfl))
  refine lt_s (p := fun c => c = 97 ∨ ∀ j, id_A g c j = 0) (i := 83) ?_ (Or.inr (fun _ => rfl))
  refine lt_s (p := fun c => c = 97 ∨ ∀ j, id_A g c j = 0) (i := 82) ?_ (Or.inr (fun _ => rfl))
  refine lt_s (p := fun c => c = 97 ∨ ∀ j, id_A g c j = 0) (i := 81) ?_ (Or.inr (fun _ => rfl))
  refine lt_s (p := fun c => c = 97 ∨ ∀ j, id_A g c j = 0) (i := 80) ?_ (Or.inr (fun _ => rfl))
  refine lt_s (p := fun c => c = 97 ∨ ∀ j, id_A g c j = 0) (i := 79) ?_ (Or.inr (fun _ => rfl))
  refine lt_s (p := fun c => c = 97 ∨ ∀ j, id_A g c j = 0) (i := 78) ?_ (Or.inr (fun _ => rfl))
  refine lt_s (p := fun c => c = 97 ∨ ∀ j, id_A g c j = 0) (i := 77) ?_ (Or.inr (fun _ => rfl))
  refine lt_s (p := fun c => c = 97 ∨ ∀ j, id_A g c j = 0) (i := 76) ?_ (Or.inr (fun _ => rfl))
  refine lt_s (p := fun c => c = 97 ∨ ∀ j, id_A g c j = 0) (i := 75) ?_ (Or.inr (fun _ => rfl))
  refine lt_s (p := fun c => c = 97 ∨ ∀ j, id_A g c j = 0) (i := 74) ?_ (Or.inr (fun _ => rfl))
  refine lt_s (p := fun c => c = 97 ∨ ∀ j, id_A g c j = 0) (i := 73) ?_ (Or.inr (fun _ => rfl))
  refine lt_s (p := fun c => c = 97 ∨ ∀ j, id_A g c j = 0) (i := 72) ?_ (Or.inr (fun _ => rfl))
  refine lt_s (p := fun c => c = 97 ∨ ∀ j, id_A g c j = 0) (i := 71) ?_ (Or.inr (fun _ => rfl))
  refine lt_s (p := fun c => c = 97 ∨ ∀ j, id_A g c j = 0) (i := 70) ?_ (Or.inr (fun _ => rfl))
  refine lt_s (p := fun c => c = 97 ∨ ∀ j, id_A g c j = 0) (i := 69) ?_ (Or.inr (fun _ => rfl))
  refine lt_s (p := fun c => c = 97 ∨ ∀ j, id_A g c j = 0) (i := 68) ?_ (Or.inr (fun _ => rfl))
  refine lt_s (p := fun c => c = 97 ∨ ∀ j, id_A g c j = 0) (i := 67) ?_ (Or.inr (fun _ => rfl))
  refine lt_s (p := fun c => c = 97 ∨ ∀ j, id_A g c j = 0) (i := 66) ?_ (Or.inr (fun _ => rfl))
  refine lt_s (p := fun c => c = 97 ∨ ∀ j, id_A g c j = 0) (i := 65) ?_ (Or.inr (fun _ => rfl))
  refine lt_s (p := fun c => c = 97 ∨ ∀ j, id_A g c j = 0) (i := 64) ?_ (Or.inr (fun _ => rfl))
  refine lt_s (p := fun c => c = 97 ∨ ∀ j, id_A g c j = 0) (i := 63) ?_ (Or.inr (fun _ => rfl))
  refine lt_s (p := fun c => c = 97 ∨ ∀ j, id_A g c j = 0) (i := 62) ?_ (Or.inr (fun _ => rfl))
  refine lt_s (p := fun c => c = 97 ∨ ∀ j, id_A g c j = 0) (i := 61) ?_ (Or.inr (fun _ => rfl))
  refine lt_s (p := fun c => c = 97 ∨ ∀ j, id_A g c j = 0) (i := 60) ?_ (Or.inr (fun _ => rfl))
  refine lt_s (p := fun c => c = 97 ∨ ∀ j, id_A g c j = 0) (i := 59) ?_ (Or.inr (fun _ => rfl))
  refine lt_s (p := fun c => c = 97 ∨ ∀ j, id_A g c j = 0) (i := 58) ?_ (Or.inr (fun _ => rfl))
  refine lt_s (p := fun c => c = 97 ∨ ∀ j, id_A g c j = 0) (i := 57) ?_ (Or.inr (fun _ => rfl))
  refine lt_s (p := fun c => c = 97 ∨ ∀ j, id_A g c j = 0) (i := 56) ?_ (Or.inr (fun _ => rfl))
  refine lt_s (p := fun c => c = 97 ∨ ∀ j, id_A g c j = 0) (i := 55) ?_ (Or.inr (fun _ => rfl))
  refine lt_s (p := fun c => c = 97 ∨ ∀ j, id_A g c j = 0) (i := 54) ?_ (Or.inr (fun _ => rfl))
  refine lt_s (p := fun c => c = 97 ∨ ∀ j, id_A g c j = 0) (i := 53) ?_ (Or.inr (fun _ => rfl))
  refine lt_s (p := fun c => c = 97 ∨ ∀ j, id_A g c j = 0) (i := 52) ?_ (Or.inr (fun _ => rfl))
  refine lt_s (p := fun c => c = 97 ∨ ∀ j, id_A g c j = 0) (i := 51) ?_ (Or.inr (fun _ => rfl))
  refine lt_s (p := fun c => c = 97 ∨ ∀ j, id_A g c j = 0) (i := 50) ?_ (Or.inr (fun _ => rfl))
  refine lt_s (p := fun c => c = 97 ∨ ∀ j, id_A g c j = 0) (i := 49) ?_ (Or.inr (fun _ => rfl))
  refine lt_s (p := fun c => c = 97 ∨ ∀ j, id_A g c j = 0) (i := 48) ?_ (Or.inr (fun _ => rfl))
  refine lt_s (p := fun c => c = 97 ∨ ∀ j, id_A g c j = 0) (i := 47) ?_ (Or.inr (fun _ => rfl))
  refine lt_s (p := fun c => c = 97 ∨ ∀ j, id_A g c j = 0) (i := 46) ?_ (Or.inr (fun _ => rfl))
  refine lt_s (p := fun c => c = 97 ∨ ∀ j, id_A g c j = 0) (i := 45) ?_ (Or.inr (fun _ => rfl))
  refine lt_s (p := fun c => c = 97 ∨ ∀ j, id_A g c j = 0) (i := 44) ?_ (Or.inr (fun _ => rfl))
  refine lt_s (p := fun c => c = 97 ∨ ∀ j, id_A g c j = 0) (i := 43) ?_ (Or.inr (fun _ => rfl))
  refine lt_s (p := fun c => c = 97 ∨ ∀ j, id_A g c j = 0) (i := 42) ?_ (Or.inr (fun _ => rfl))
  refine lt_s (p := fun c => c = 97 ∨ ∀ j, id_A g c j = 0) (i := 41) ?_ (Or.inr (fun _ => rfl))
  refine lt_s (p := fun c => c = 97 ∨ ∀ j, id_A g c j = 0) (i := 40) ?_ (Or.inr (fun _ => rfl))
  refine lt_s (p := fun c => c = 97 ∨ ∀ j, id_A g c j = 0) (i := 39) ?_ (Or.inr (fun _ => rfl))
  refine lt_s (p := fun c => c = 97 ∨ ∀ j, id_A g c j = 0) (i := 38) ?_ (Or.inr (fun _ => rfl))
  refine lt_s (p := fun c => c = 97 ∨ ∀ j, id_A g c j = 0) (i := 37) ?_ (Or.inr (fun _ => rfl))
  refine lt_s (p := fun c => c = 97 ∨ ∀ j, id_A g c j = 0) (i := 36) ?_ (Or.inr (fun _ => rfl))
  refine lt_s (p := fun c => c = 97 ∨ ∀ j, id_A g c j = 0) (i := 35) ?_ (Or.inr (fun _ => rfl))
  refine lt_s (p := fun c => c = 97 ∨ ∀ j, id_A g c j = 0) (i := 34) ?_ (Or.inr (fun _ => rfl))
  refine lt_s (p := fun c => c = 97 ∨ ∀ j, id_A g c j = 0) (i := 33) ?_ (Or.inr (fun _ => rfl))
  refine lt_s (p := fun c => c = 97 ∨ ∀ j, id_A g c j = 0) (i := 32) ?_ (Or.inr (fun _ => rfl))
  refine lt_s (p := fun c => c = 97 ∨ ∀ j, id_A g c j = 0) (i := 31) ?_ (Or.inr (fun _ => rfl))
  refine lt_s (p := fun c => c = 97 ∨ ∀ j, id_A g c j = 0) (i := 30) ?_ (Or.inr (fun _ => rfl))
  refine lt_s (p := fun c => c = 97 ∨ ∀ j, id_A g c j = 0) (i := 29) ?_ (Or.inr (fun _ => rfl))
  refine lt_s (p := fun c => c = 97 ∨ ∀ j, id_A g c j = 0) (i := 28) ?_ (Or.inr (fun _ => rfl))
  refine lt_s (p := fun c => c = 97 ∨ ∀ j, id_A g c j = 0) (i := 27) ?_ (Or.inr (fun _ => rfl))
  refine lt_s (p := fun c => c = 97 ∨ ∀ j, id_A g c j = 0) (i := 26) ?_ (Or.inr (fun _ => rfl))
  refine lt_s (p := fun c => c = 97 ∨ ∀ j, id_A g c j = 0) (i := 25) ?_ (Or.inr (fun _ => rfl))
  refine lt_s (p := fun c => c = 97 ∨ ∀ j, id_A g c j = 0) (i := 24) ?_ (Or.inr (fun _ => rfl))
  refine lt_s (p := fun c => c = 97 ∨ ∀ j, id_A g c j = 0) (i := 23) ?_ (Or.inr (fun _ => rfl))
  refine lt_s (p := fun c => c = 97 ∨ ∀ j, id_A g c j = 0) (i := 22) ?_ (Or.inr (fun _ => rfl))
  refine lt_s (p := fun c => c = 97 ∨ ∀ j, id_A g c j = 0) (i := 21) ?_ (Or.inr (fun _ => rfl))
  refine lt_s (p := fun c => c = 97 ∨ ∀ j, id_A g c j = 0) (i := 20) ?_ (Or.inr (fun _ => rfl))
  refine lt_s (p := fun c => c = 97 ∨ ∀ j, id_A g c j = 0) (i := 19) ?_ (Or.inr (fun _ => rfl))
  refine lt_s (p := fun c => c = 97 ∨ ∀ j, id_A g c j = 0) (i := 18) ?_ (Or.inr (fun _ => rfl))
  refine lt_s (p := fun c => c = 97 ∨ ∀ j, id_A g c j = 0) (i := 17) ?_ (Or.inr (fun _ => rfl))
  refine lt_s (p := fun c => c = 97 ∨ ∀ j, id_A g c j = 0) (i := 16) ?_ (Or.inr (fun _ => rfl))
  refine lt_s (p := fun c => c = 97 ∨ ∀ j, id_A g c j = 0) (i := 15) ?_ (Or.inr (fun _ => rfl))
  refine lt_s (p := fun c => c = 97 ∨ ∀ j, id_A g c j = 0) (i := 14) ?_ (Or.inr (fun _ => rfl))
  refine lt_s (p := fun c => c = 97 ∨ ∀ j, id_A g c j = 0) (i := 13) ?_ (Or.inr (fun _ => rfl))
  refine lt_s (p := fun c => c = 97 ∨ ∀ j, id_A g c j = 0) (i := 12) ?_ (Or.inr (fun _ => rfl))
  refine lt_s (p := fun c => c = 97 ∨ ∀ j, id_A g c j = 0) (i := 11) ?_ (Or.inr (fun _ => rfl))
  refine lt_s (p := fun c => c = 97 ∨ ∀ j, id_A g c j = 0) (i := 10) ?_ (Or.inr (fun _ => rfl))
  refine lt_s (p := fun c => c = 97 ∨ ∀ j, id_A g c j = 0) (i := 9) ?_ (Or.inr (fun _ => rfl))
  refine lt_s (p := fun c => c = 97 ∨ ∀ j, id_A g c j = 0) (i := 8) ?_ (Or.inr (fun _ => rfl))
  refine lt_s (p := fun c => c = 97 ∨ ∀ j, id_A g c j = 0) (i := 7) ?_ (Or.inr (fun _ => rfl))
  refine lt_s (p := fun c => c = 97 ∨ ∀ j, id_A g c j = 0) (i := 6) ?_ (Or.inr (fun _ => rfl))
  refine lt_s (p := fun c => c = 97 ∨ ∀ j, id_A g c j = 0) (i := 5) ?_ (Or.inr (fun _ => rfl))
  refine lt_s (p := fun c => c = 97 ∨ ∀ j, id_A g c j = 0) (i := 4) ?_ (Or.inr (fun _ => rfl))
  refine lt_s (p := fun c => c = 97 ∨ ∀ j, id_A g c j = 0) (i := 3) ?_ (Or.inr (fun _ => rfl))
  refine lt_s (p := fun c => c = 97 ∨ ∀ j, id_A g c j = 0) (i := 2) ?_ (Or.inr (fun _ => rfl))
  refine lt_s (p := fun c => c = 97 ∨ ∀ j, id_A g c j = 0) (i := 1) ?_ (Or.inr (fun _ => rfl))
  refine lt_s (p := fun c => c = 97 ∨ ∀ j, id_A g c j = 0) (i := 0) ?_ (Or.inr (fun _ => rfl))
  exact lt_0
theorem ie_A97 (g : cw_G) : ∀ j, j < 4 → id_A g 97 j = -1 := by
  refine lt_s (p := fun j => id_A g 97 j = -1) (i := 3) ?_ rfl
  refine lt_s (p := fun j => id_A g 97 j = -1) (i := 2) ?_ rfl
  refine lt_s (p := fun j => id_A g 97 j = -1) (i := 1) ?_ rfl
  refine lt_s (p := fun j => id_A g 97 j = -1) (i := 0) ?_ rfl
  exact lt_0
set_option maxRecDepth 100000 in
set_option maxHeartbeats 4000000 in
theorem ie_J (g : cw_G) : ∀ c, c < 120 → (c = 75 ∨ ∀ j, id_J g c j = 0) := by
  refine lt_s (p := fun c => c = 75 ∨ ∀ j, id_J g c j = 0) (i := 119) ?_ (Or.inr (fun _ => rfl))
  refine lt_s (p := fun c => c = 75 ∨ ∀ j, id_J g c j = 0) (i := 118) ?_ (Or.inr (fun _ => rfl))
  refine lt_s (p := fun c => c = 75 ∨ ∀ j, id_J g c j = 0) (i := 117) ?_ (Or.inr (fun _ => rfl))
  refine lt_s (p := fun c => c = 75 ∨ ∀ j, id_J g c j = 0) (i := 116) ?_ (Or.inr (fun _ => rfl))
  refine lt_s (p := fun c => c = 75 ∨ ∀ j, id_J g c j = 0) (i := 115) ?_ (Or.inr (fun _ => rfl))
  refine lt_s (p := fun c => c = 75 ∨ ∀ j, id_J g c j = 0) (i := 114) ?_ (Or.inr (fun _ => rfl))
  refine lt_s (p := fun c => c = 75 ∨ ∀ j, id_J g c j = 0) (i := 113) ?_ (Or.inr (fun _ => rfl))
  refine lt_s (p := fun c => c = 75 ∨ ∀ j, id_J g c j = 0) (i := 112) ?_ (Or.inr (fun _ => rfl))
  refine lt_s (p := fun c => c = 75 ∨ ∀ j, id_J g c j = 0) (i := 111) ?_ (Or.inr (fun _ => rfl))
  refine lt_s (p := fun c => c = 75 ∨ ∀ j, id_J g c j = 0) (i := 110) ?_ (Or.inr (fun _ => rfl))
  refine lt_s (p := fun c => c = 75 ∨ ∀ j, id_J g c j = 0) (i := 109) ?_ (Or.inr (fun _ => rfl))
  refine lt_s (p := fun c => c = 75 ∨ ∀ j, id_J g c j = 0) (i := 108) ?_ (Or.inr (fun _ => rfl))
  refine lt_s (p := fun c => c = 75 ∨ ∀ j, id_J g c j = 0) (i := 107) ?_ (Or.inr (fun _ => rfl))
  refine lt_s (p := fun c => c = 75 ∨ ∀ j, id_J g c j = 0) (i := 106) ?_ (Or.inr (fun _ => rfl))
  refine lt_s (p := fun c => c = 75 ∨ ∀ j, id_J g c j = 0) (i := 105) ?_ (Or.inr (fun _ => rfl))
  refine lt_s (p := fun c => c = 75 ∨ ∀ j, id_J g c j = 0) (i := 104) ?_ (Or.inr (fun _ => rfl))
  refine lt_s (p := fun c => c = 75 ∨ ∀ j, id_J g c j = 0) (i := 103) ?_ (Or.inr (fun _ => rfl))
  refine lt_s (p := fun c => c = 75 ∨ ∀ j, id_J g c j = 0) (i := 102) ?_ (Or.inr (fun _ => rfl))
  refine lt_s (p := fun c => c = 75 ∨ ∀ j, id_J g c j = 0) (i := 101) ?_ (Or.inr (fun _ => rfl))
  refine lt_s (p := fun c => c = 75 ∨ ∀ j, id_J g c j = 0) (i := 100) ?_ (Or.inr (fun _ => rfl))
  refine lt_s (p := fun c => c = 75 ∨ ∀ j, id_J g c j = 0) (i := 99) ?_ (Or.inr (fun _ => rfl))
  refine lt_s (p := fun c => c = 75 ∨ ∀ j, id_J g c j = 0) (i := 98) ?_ (Or.inr (fun _ => rfl))
  refine lt_s (p := fun c => c = 75 ∨ ∀ j, id_J g c j = 0) (i := 97) ?_ (Or.inr (fun _ => rfl))
  refine lt_s (p := fun c => c = 75 ∨ ∀ j, id_J g c j = 0) (i := 96) ?_ (Or.inr (fun _ => rfl))
  refine lt_s (p := fun c => c = 75 ∨ ∀ j, id_J g c j = 0) (i := 95) ?_ (Or.inr (fun _ => rfl))
  refine lt_s (p := fun c => c = 75 ∨ ∀ j, id_J g c j = 0) (i := 94) ?_ (Or.inr (fun _ => rfl))
  refine lt_s (p := fun c => c = 75 ∨ ∀ j, id_J g c j = 0) (i := 93) ?_ (Or.inr (fun _ => rfl))
  refine lt_s (p := fun c => c = 75 ∨ ∀ j, id_J g c j = 0) (i := 92) ?_ (Or.inr (fun _ => rfl))
  refine lt_s (p := fun c => c = 75 ∨ ∀ j, id_J g c j = 0) (i := 91) ?_ (Or.inr (fun _ => rfl))
  refine lt_s (p := fun c => c = 75 ∨ ∀ j, id_J g c j = 0) (i := 90) ?_ (Or.inr (fun _ => rfl))
  refine lt_s (p := fun c => c = 75 ∨ ∀ j, id_J g c j = 0) (i := 89) ?_ (Or.inr (fun _ => rfl))
  refine lt_s (p := fun c => c = 75 ∨ ∀ j, id_J g c j = 0) (i := 88) ?_ (Or.inr (fun _ => rfl))
  refine lt_s (p := fun c => c = 75 ∨ ∀ j, id_J g c j = 0) (i := 87) ?_ (Or.inr (fun _ => rfl))
  refine lt_s (p := fun c => c = 75 ∨ ∀ j, id_J g c j = 0) (i := 86) ?_ (Or.inr (fun _ => rfl))
  refine lt_s (p := fun c => c = 75 ∨ ∀ j, id_J g c j = 0) (i := 85) ?_ (Or.inr (fun _ => rfl))
  refine lt_s (p := fun c => c = 75 ∨ ∀ j, id_J g c j = 0) (i := 84) ?_ (Or.inr (fun _ => rfl))
  refine lt_s (p := fun c => c = 75 ∨ ∀ j, id_J g c j = 0) (i := 83) ?_ (Or.inr (fun _ => rfl))
  refine lt_s (p := fun c => c = 75 ∨ ∀ j, id_J g c j = 0) (i := 82) ?_ (Or.inr (fun _ => rfl))
  refine lt_s (p := fun c => c = 75 ∨ ∀ j, id_J g c j = 0) (i := 81) ?_ (Or.inr (fun _ => rfl))
  refine lt_s (p := fun c => c = 75 ∨ ∀ j, id_J g c j = 0) (i := 80) ?_ (Or.inr (fun _ => rfl))
  refine lt_s (p := fun c => c = 75 ∨ ∀ j, id_J g c j = 0) (i := 79) ?_ (Or.inr (fun _ => rfl))
  refine lt_s (p := fun c => c = 75 ∨ ∀ j, id_J g c j = 0) (i := 78) ?_ (Or.inr (fun _ => rfl))
  refine lt_s (p := fun c => c = 75 ∨ ∀ j, id_J g c j = 0) (i := 77) ?_ (Or.inr (fun _ => rfl))
  refine lt_s (p := fun c => c = 75 ∨ ∀ j, id_J g c j = 0) (i := 76) ?_ (Or.inr (fun _ => rfl))
  refine lt_s (p := fun c => c = 75 ∨ ∀ j, id_J g c j = 0) (i := 75) ?_ (Or.inl rfl)
  refine lt_s (p := fun c => c = 75 ∨ ∀ j, id_J g c j = 0) (i := 74) ?_ (Or.inr (fun _ => rfl))
  refine lt_s (p := fun c => c = 75 ∨ ∀ j, id_J g c j = 0) (i := 73) ?_ (Or.inr (fun _ => rfl))
  refine lt_s (p := fun c => c = 75 ∨ ∀ j, id_J g c j = 0) (i := 72) ?_ (Or.inr (fun _ => rfl))
  refine lt_s (p := fun c => c = 75 ∨ ∀ j, id_J g c j = 0) (i := 71) ?_ (Or.inr (fun _ => rfl))
  refine lt_s (p := fun c => c = 75 ∨ ∀ j, id_J g c j = 0) (i := 70) ?_ (Or.inr (fun _ => rfl))
  refine lt_s (p := fun c => c = 75 ∨ ∀ j, id_J g c j = 0) (i := 69) ?_ (Or.inr (fun _ => rfl))
  refine lt_s (p := fun c => c = 75 ∨ ∀ j, id_J g c j = 0) (i := 68) ?_ (Or.inr (fun _ => rfl))
  refine lt_s (p := fun c => c = 75 ∨ ∀ j, id_J g c j = 0) (i := 67) ?_ (Or.inr (fun _ => rfl))
  refine lt_s (p := fun c => c = 75 ∨ ∀ j, id_J g c j = 0) (i := 66) ?_ (Or.inr (fun _ => rfl))
  refine lt_s (p := fun c => c = 75 ∨ ∀ j, id_J g c j = 0) (i := 65) ?_ (Or.inr (fun _ => rfl))
  refine lt_s (p := fun c => c = 75 ∨ ∀ j, id_J g c j = 0) (i := 64) ?_ (Or.inr (fun _ => rfl))
  refine lt_s (p := fun c => c = 75 ∨ ∀ j, id_J g c j = 0) (i := 63) ?_ (Or.inr (fun _ => rfl))
  refine lt_s (p := fun c => c = 75 ∨ ∀ j, id_J g c j = 0) (i := 62) ?_ (Or.inr (fun _ => rfl))
  refine lt_s (p := fun c => c = 75 ∨ ∀ j, id_J g c j = 0) (i := 61) ?_ (Or.inr (fun _ => rfl))
  refine lt_s (p := fun c => c = 75 ∨ ∀ j, id_J g c j = 0) (i := 60) ?_ (Or.inr (fun _ => rfl))
  refine lt_s (p := fun c => c = 75 ∨ ∀ j, id_J g c j = 0) (i := 59) ?_ (Or.inr (fun _ => rfl))
  refine lt_s (p := fun c => c = 75 ∨ ∀ j, id_J g c j = 0) (i := 58) ?_ (Or.inr (fun _ => rfl))
  refine lt_s (p := fun c => c = 75 ∨ ∀ j, id_J g c j = 0) (i := 57) ?_ (Or.inr (fun _ => rfl))
  refine lt_s (p := fun c => c = 75 ∨ ∀ j, id_J g c j = 0) (i := 56) ?_ (Or.inr (fun _ => rfl))
  refine lt_s (p := fun c => c = 75 ∨ ∀ j, id_J g c j = 0) (i := 55) ?_ (Or.inr (fun _ => rfl))
  refine lt_s (p := fun c => c = 75 ∨ ∀ j, id_J g c j = 0) (i := 54) ?_ (Or.inr (fun _ => rfl))
  refine lt_s (p := fun c => c = 75 ∨ ∀ j, id_J g c j = 0) (i := 53) ?_ (Or.inr (fun _ => rfl))
  refine lt_s (p := fun c => c = 75 ∨ ∀ j, id_J g c j = 0) (i := 52) ?_ (Or.inr (fun _ => rfl))
  refine lt_s (p := fun c => c = 75 ∨ ∀ j, id_J g c j = 0) (i := 51) ?_ (Or.inr (fun _ => rfl))
  refine lt_s (p := fun c => c = 75 ∨ ∀ j, id_J g c j = 0) (i := 50) ?_ (Or.inr (fun _ => rfl))
  refine lt_s (p := fun c => c = 75 ∨ ∀ j, id_J g c j = 0) (i := 49) ?_ (Or.inr (fun _ => rfl))
  refine lt_s (p := fun c => c = 75 ∨ ∀ j, id_J g c j = 0) (i := 48) ?_ (Or.inr (fun _ => rfl))
  refine lt_s (p := fun c => c = 75 ∨ ∀ j, id_J g c j = 0) (i := 47) ?_ (Or.inr (fun _ => rfl))
  refine lt_s (p := fun c => c = 75 ∨ ∀ j, id_J g c j = 0) (i := 46) ?_ (Or.inr (fun _ => rfl))
  refine lt_s (p := fun c => c = 75 ∨ ∀ j, id_J g c j = 0) (i := 45) ?_ (Or.inr (fun _ => rfl))
  refine lt_s (p := fun c => c = 75 ∨ ∀ j, id_J g c j = 0) (i := 44) ?_ (Or.inr (fun _ => rfl))
  refine lt_s (p := fun c => c = 75 ∨ ∀ j, id_J g c j = 0) (i := 43) ?_ (Or.inr (fun _ => rfl))
  refine lt_s (p := fun c => c = 75 ∨ ∀ j, id_J g c j = 0) (i := 42) ?_ (Or.inr (fun _ => rfl))
  refine lt_s (p := fun c => c = 75 ∨ ∀ j, id_J g c j = 0) (i := 41) ?_ (Or.inr (fun _ => rfl))
  refine lt_s (p := fun c => c = 75 ∨ ∀ j, id_J g c j = 0) (i := 40) ?_ (Or.inr (fun _ => rfl))
  refine lt_s (p := fun c => c = 75 ∨ ∀ j, id_J g c j = 0) (i := 39) ?_ (Or.inr (fun _ => rfl))
  refine lt_s (p := fun c => c = 75 ∨ ∀ j, id_J g c j = 0) (i := 38) ?_ (Or.inr (fun _ => rfl))
  refine lt_s (p := fun c => c = 75 ∨ ∀ j, id_J g c j = 0) (i := 37) ?_ (Or.inr (fun _ => rfl))
  refine lt_s (p := fun c => c = 75 ∨ ∀ j, id_J g c j = 0) (i := 36) ?_ (Or.inr (fun _ => rfl))
  refine lt_s (p := fun c => c = 75 ∨ ∀ j, id_J g c j = 0) (i := 35) ?_ (Or.inr (fun _ => rfl))
  refine lt_s (p := fun c => c = 75 ∨ ∀ j, id_J g c j = 0) (i := 34) ?_ (Or.inr (fun _ => rfl))
  refine lt_s (p := fun c => c = 75 ∨ ∀ j, id_J g c j = 0) (i := 33) ?_ (Or.inr (fun _ => rfl))
  refine lt_s (p := fun c => c = 75 ∨ ∀ j, id_J g c j = 0) (i := 32) ?_ (Or.inr (fun _ => rfl))
  refine lt_s (p := fun c => c = 75 ∨ ∀ j, id_J g c j = 0) (i := 31) ?_ (Or.inr (fun _ => rfl))
  refine lt_s (p := fun c => c = 75 ∨ ∀ j, id_J g c j = 0) (i := 30) ?_ (Or.inr (fun _ => rfl))
  refine lt_s (p := fun c => c = 75 ∨ ∀ j, id_J g c j = 0) (i := 29) ?_ (Or.inr (fun _ => rfl))
  refine lt_s (p := fun c => c = 75 ∨ ∀ j, id_J g c j = 0) (i := 28) ?_ (Or.inr (fun _ => rfl))
  refine lt_s (p := fun c => c = 75 ∨ ∀ j, id_J g c j = 0) (i := 27) ?_ (Or.inr (fun _ => rfl))
  refine lt_s (p := fun c => c = 75 ∨ ∀ j, id_J g c j = 0) (i := 26) ?_ (Or.inr (fun _ => rfl))
  refine lt_s (p := fun c => c = 75 ∨ ∀ j, id_J g c j = 0) (i := 25) ?_ (Or.inr (fun _ => rfl))
  refine lt_s (p := fun c => c = 75 ∨ ∀ j, id_J g c j = 0) (i := 24) ?_ (Or.inr (fun _ => rfl))
  refine lt_s (p := fun c => c = 75 ∨ ∀ j, id_J g c j = 0) (i := 23) ?_ (Or.inr (fun _ => rfl))
  refine lt_s (p := fun c => c = 75 ∨ ∀ j, id_J g c j = 0) (i := 22) ?_ (Or.inr (fun _ => rfl))
  refine lt_s (p := fun c => c = 75 ∨ ∀ j, id_J g c j = 0) (i := 21) ?_ (Or.inr (fun _ => rfl))
  refine lt_s (p := fun c => c = 75 ∨ ∀ j, id_J g c j = 0) (i := 20) ?_ (Or.inr (fun _ => rfl))
  refine lt_s (p := fun c => c = 75 ∨ ∀ j, id_J g c j = 0) (i := 19) ?_ (Or.inr (fun _ => rfl))
  refine lt_s (p := fun c => c = 75 ∨ ∀ j, id_J g c j = 0) (i := 18) ?_ (Or.inr (fun _ => rfl))
  refine lt_s (p := fun c => c = 75 ∨ ∀ j, id_J g c j = 0) (i := 17) ?_ (Or.inr (fun _ => rfl))
  refine lt_s (p := fun c => c = 75 ∨ ∀ j, id_J g c j = 0) (i := 16) ?_ (Or.inr (fun _ => rfl))
  refine lt_s (p := fun c => c = 75 ∨ ∀ j, id_J g c j = 0) (i := 15) ?_ (Or.inr (fun _ => rfl))
  refine lt_s (p := fun c => c = 75 ∨ ∀ j, id_J g c j = 0) (i := 14) ?_ (Or.inr (fun _ => rfl))
  refine lt_s (p := fun c => c = 75 ∨ ∀ j, id_J g c j = 0) (i := 13) ?_ (Or.inr (fun _ => rfl))
  refine lt_s (p := fun c => c = 75 ∨ ∀ j, id_J g c j = 0) (i := 12) ?_ (Or.inr (fun _ => rfl))
  refine lt_s (p := fun c => c = 75 ∨ ∀ j, id_J g c j = 0) (i := 11) ?_ (Or.inr (fun _ => rfl))
  refine lt_s (p := fun c => c = 75 ∨ ∀ j, id_J g c j = 0) (i := 10) ?_ (Or.inr (fun _ => rfl))
  refine lt_s (p := fun c => c = 75 ∨ ∀ j, id_J g c j = 0) (i := 9) ?_ (Or.inr (fun _ => rfl))
  refine lt_s (p := fun c => c = 75 ∨ ∀ j, id_J g c j = 0) (i := 8) ?_ (Or.inr (fun _ => rfl))
  refine lt_s (p := fun c => c = 75 ∨ ∀ j, id_J g c j = 0) (i := 7) ?_ (Or.inr (fun _ => rfl))
  refine lt_s (p := fun c => c = 75 ∨ ∀ j, id_J g c j = 0) (i := 6) ?_ (Or.inr (fun _ => rfl))
  refine lt_s (p := fun c => c = 75 ∨ ∀ j, id_J g c j = 0) (i := 5) ?_ (Or.inr (fun _ => rfl))
  refine lt_s (p := fun c => c = 75 ∨ ∀ j, id_J g c j = 0) (i := 4) ?_ (Or.inr (fun _ => rfl))
  refine lt_s (p := fun c => c = 75 ∨ ∀ j, id_J g c j = 0) (i := 3) ?_ (Or.inr (fun _ => rfl))
  refine lt_s (p := fun c => c = 75 ∨ ∀ j, id_J g c j = 0) (i := 2) ?_ (Or.inr (fun _ => rfl))
  refine lt_s (p := fun c => c = 75 ∨ ∀ j, id_J g c j = 0) (i := 1) ?_ (Or.inr (fun _ => rfl))
  refine lt_s (p := fun c => c = 75 ∨ ∀ j, id_J g c j = 0) (i := 0) ?_ (Or.inr (fun _ => rfl))
  exact lt_0
theorem ie_J75 (g : cw_G) : ∀ j, j < 15 → id_J g 75 j = cw_J0 75 j := by
  refine lt_s (p := fun j => id_J g 75 j = cw_J0 75 j) (i := 14) ?_ rfl
  refine lt_s (p := fun j => id_J g 75 j = cw_J0 75 j) (i := 13) ?_ rfl
  refine lt_s (p := fun j => id_J g 75 j = cw_J0 75 j) (i := 12) ?_ rfl
  refine lt_s (p := fun j => id_J g 75 j = cw_J0 75 j) (i := 11) ?_ rfl
  refine lt_s (p := fun j => id_J g 75 j = cw_J0 75 j) (i := 10) ?_ rfl
  refine lt_s (p := fun j => id_J g 75 j = cw_J0 75 j) (i := 9) ?_ rfl
  refine lt_s (p := fun j => id_J g 75 j = cw_J0 75 j) (i := 8) ?_ rfl
  refine lt_s (p := fun j => id_J g 75 j = cw_J0 75 j) (i := 7) ?_ rfl
  refine lt_s (p := fun j => id_J g 75 j = cw_J0 75 j) (i := 6) ?_ rfl
  refine lt_s (p := fun j => id_J g 75 j = cw_J0 75 j) (i := 5) ?_ rfl
  refine lt_s (p := fun j => id_J g 75 j = cw_J0 75 j) (i := 4) ?_ rfl
  refine lt_s (p := fun j => id_J g 75 j = cw_J0 75 j) (i := 3) ?_ rfl
  refine lt_s (p := fun j => id_J g 75 j = cw_J0 75 j) (i := 2) ?_ rfl
  refine lt_s (p := fun j => id_J g 75 j = cw_J0 75 j) (i := 1) ?_ rfl
  refine lt_s (p := fun j => id_J g 75 j = cw_J0 75 j) (i := 0) ?_ rfl
  exact lt_0
set_option maxRecDepth 100000 in
set_option maxHeartbeats 4000000 in
theorem ie_V0 (g : cw_G) : ∀ k, k < 15 → cw_mk g cw_I0 (false, false) 0 k = id_V g 0 k := by
  refine lt_s (p := fun k => cw_mk g cw_I0 (false, false) 0 k = id_V g 0 k) (i := 14) ?_ rfl
  refine lt_s (p := fun k => cw_mk g cw_I0 (false, false) 0 k = id_V g 0 k) (i := 13) ?_ rfl
  refine lt_s (p := fun k => cw_mk g cw_I0 (false, false) 0 k = id_V g 0 k) (i := 12) ?_ rfl
  refine lt_s (p := fun k => cw_mk g cw_I0 (false, false) 0 k = id_V g 0 k) (i := 11) ?_ rfl
  refine lt_s (p := fun k => cw_mk g cw_I0 (false, false) 0 k = id_V g 0 k) (i := 10) ?_ rfl
  refine lt_s (p := fun k => cw_mk g cw_I0 (false, false) 0 k = id_V g 0 k) (i := 9) ?_ rfl
  refine lt_s (p := fun k => cw_mk g cw_I0 (false, false) 0 k = id_V g 0 k) (i := 8) ?_ rfl
  refine lt_s (p := fun k => cw_mk g cw_I0 (false, false) 0 k = id_V g 0 k) (i := 7) ?_ rfl
  refine lt_s (p := fun k => cw_mk g cw_I0 (false, false) 0 k = id_V g 0 k) (i := 6) ?_ rfl
  refine lt_s (p := fun k => cw_mk g cw_I0 (false, false) 0 k = id_V g 0 k) (i := 5) ?_ rfl
  refine lt_s (p := fun k => cw_mk g cw_I0 (false, false) 0 k = id_V g 0 k) (i := 4) ?_ rfl
  refine lt_s (p := fun k => cw_mk g cw_I0 (false, false) 0 k = id_V g 0 k) (i := 3) ?_ rfl
  refine lt_s (p := fun k => cw_mk g cw_I0 (false, false) 0 k = id_V g 0 k) (i := 2) ?_ rfl
  refine lt_s (p := fun k => cw_mk g cw_I0 (false, false) 0 k = id_V g 0 k) (i := 1) ?_ rfl
  refine lt_s (p := fun k => cw_mk g cw_I0 (false, false) 0 k = id_V g 0 k) (i := 0) ?_ rfl
  exact lt_0
set_option maxRecDepth 100000 in
set_option maxHeartbeats 4000000 in
theorem ie_V1 (g : cw_G) : ∀ k, k < 4 → cw_mk g cw_I0 (false, false) 1 k = id_V g 1 k := by
  refine lt_s (p := fun k => cw_mk g cw_I0 (false, false) 1 k = id_V g 1 k) (i := 3) ?_ rfl
  refine lt_s (p := fun k => cw_mk g cw_I0 (false, false) 1 k = id_V g 1 k) (i := 2) ?_ rfl
  refine lt_s (p := fun k => cw_mk g cw_I0 (false, false) 1 k = id_V g 1 k) (i := 1) ?_ rfl
  refine lt_s (p := fun k => cw_mk g cw_I0 (false, false) 1 k = id_V g 1 k) (i := 0) ?_ rfl
  exact lt_0
set_option maxRecDepth 100000 in
set_option maxHeartbeats 4000000 in
theorem ie_V5 (g : cw_G) : ∀ k, k < 4 → cw_mk g cw_I0 (false, false) 5 k = id_V g 5 k := by
  refine lt_s (p := fun k => cw_mk g cw_I0 (false, false) 5 k = id_V g 5 k) (i := 3) ?_ rfl
  refine lt_s (p := fun k => cw_mk g cw_I0 (false, false) 5 k = id_V g 5 k) (i := 2) ?_ rfl
  refine lt_s (p := fun k => cw_mk g cw_I0 (false, false) 5 k = id_V g 5 k) (i := 1) ?_ rfl
  refine lt_s (p := fun k => cw_mk g cw_I0 (false, false) 5 k = id_V g 5 k) (i := 0) ?_ rfl
  exact lt_0
set_option maxRecDepth 100000 in
set_option maxHeartbeats 4000000 in
theorem ie_V9 (g : cw_G) : ∀ k, k < 3 → cw_mk g cw_I0 (false, false) 9 k = id_V g 9 k := by
  refine lt_s (p := fun k => cw_mk g cw_I0 (false, false) 9 k = id_V g 9 k) (i := 2) ?_ rfl
  refine lt_s (p := fun k => cw_mk g cw_I0 (false, false) 9 k = id_V g 9 k) (i := 1) ?_ rfl
  refine lt_s (p := fun k => cw_mk g cw_I0 (false, false) 9 k = id_V g 9 k) (i := 0) ?_ rfl
  exact lt_0
set_option maxRecDepth 100000 in
set_option maxHeartbeats 4000000 in
theorem ie_V12 (g : cw_G) : ∀ k, k < 4 → cw_mk g cw_I0 (false, false) 12 k = id_V g 12 k := by
  refine lt_s (p := fun k => cw_mk g cw_I0 (false, false) 12 k = id_V g 12 k) (i := 3) ?_ rfl
  refine lt_s (p := fun k => cw_mk g cw_I0 (false, false) 12 k = id_V g 12 k) (i := 2) ?_ rfl
  refine lt_s (p := fun k => cw_mk g cw_I0 (false, false) 12 k = id_V g 12 k) (i := 1) ?_ rfl
  refine lt_s (p := fun k => cw_mk g cw_I0 (false, false) 12 k = id_V g 12 k) (i := 0) ?_ rfl
  exact lt_0
set_option maxRecDepth 100000 in
set_option maxHeartbeats 4000000 in
theorem ie_V16 (g : cw_G) : ∀ k, k < 2 → cw_mk g cw_I0 (false, false) 16 k = id_V g 16 k := by
  refine lt_s (p := fun k => cw_mk g cw_I0 (false, false) 16 k = id_V g 16 k) (i := 1) ?_ rfl
  refine lt_s (p := fun k => cw_mk g cw_I0 (false, false) 16 k = id_V g 16 k) (i := 0) ?_ rfl
  exact lt_0
set_option maxRecDepth 100000 in
set_option maxHeartbeats 4000000 in
theorem ie_V19 (g : cw_G) : ∀ k, k < 10 → cw_mk g cw_I0 (false, false) 19 k = id_V g 19 k := by
  refine lt_s (p := fun k => cw_mk g cw_I0 (false, false) 19 k = id_V g 19 k) (i := 9) ?_ rfl
  refine lt_s (p := fun k => cw_mk g cw_I0 (false, false) 19 k = id_V g 19 k) (i := 8) ?_ rfl
  refine lt_s (p := fun k => cw_mk g cw_I0 (false, false) 19 k = id_V g 19 k) (i := 7) ?_ rfl
  refine lt_s (p := fun k => cw_mk g cw_I0 (false, false) 19 k = id_V g 19 k) (i := 6) ?_ rfl
  refine lt_s (p := fun k => cw_mk g cw_I0 (false, false) 19 k = id_V g 19 k) (i := 5) ?_ rfl
  refine lt_s (p := fun k => cw_mk g cw_I0 (false, false) 19 k = id_V g 19 k) (i := 4) ?_ rfl
  refine lt_s (p := fun k => cw_mk g cw_I0 (false, false) 19 k = id_V g 19 k) (i := 3) ?_ rfl
  refine lt_s (p := fun k => cw_mk g cw_I0 (false, false) 19 k = id_V g 19 k) (i := 2) ?_ rfl
  refine lt_s (p := fun k => cw_mk g cw_I0 (false, false) 19 k = id_V g 19 k) (i := 1) ?_ rfl
  refine lt_s (p := fun k => cw_mk g cw_I0 (false, false) 19 k = id_V g 19 k) (i := 0) ?_ rfl
  exact lt_0
set_option maxRecDepth 100000 in
set_option maxHeartbeats 4000000 in
theorem ie_V29 (g : cw_G) : ∀ k, k < 2 → cw_mk g cw_I0 (false, false) 29 k = id_V g 29 k := by
  refine lt_s (p := fun k => cw_mk g cw_I0 (false, false) 29 k = id_V g 29 k) (i := 1) ?_ rfl
  refine lt_s (p := fun k => cw_mk g cw_I0 (false, false) 29 k = id_V g 29 k) (i := 0) ?_ rfl
  exact lt_0
set_option maxRecDepth 100000 in
set_option maxHeartbeats 4000000 in
theorem ie_V33 (g : cw_G) : ∀ k, k < 12 → cw_mk g cw_I0 (false, false) 33 k = id_V g 33 k := by
  refine lt_s (p := fun k => cw_mk g cw_I0 (false, false) 33 k = id_V g 33 k) (i := 11) ?_ rfl
  refine lt_s (p := fun k => cw_mk g cw_I0 (false, false) 33 k = id_V g 33 k) (i := 10) ?_ rfl
  refine lt_s (p := fun k => cw_mk g cw_I0 (false, false) 33 k = id_V g 33 k) (i := 9) ?_ rfl
  refine lt_s (p := fun k => cw_mk g cw_I0 (false, false) 33 k = id_V g 33 k) (i := 8) ?_ rfl
  refine lt_s (p := fun k => cw_mk g cw_I0 (false, false) 33 k = id_V g 33 k) (i := 7) ?_ rfl
  refine lt_s (p := fun k => cw_mk g cw_I0 (false, false) 33 k = id_V g 33 k) (i := 6) ?_ rfl
  refine lt_s (p := fun k => cw_mk g cw_I0 (false, false) 33 k = id_V g 33 k) (i := 5) ?_ rfl
  refine lt_s (p := fun k => cw_mk g cw_I0 (false, false) 33 k = id_V g 33 k) (i := 4) ?_ rfl
  refine lt_s (p := fun k => cw_mk g cw_I0 (false, false) 33 k = id_V g 33 k) (i := 3) ?_ rfl
  refine lt_s (p := fun k => cw_mk g cw_I0 (false, false) 33 k = id_V g 33 k) (i := 2) ?_ rfl
  refine lt_s (p := fun k => cw_mk g cw_I0 (false, false) 33 k = id_V g 33 k) (i := 1) ?_ rfl
  refine lt_s (p := fun k => cw_mk g cw_I0 (false, false) 33 k = id_V g 33 k) (i := 0) ?_ rfl
  exact lt_0
set_option maxRecDepth 100000 in
set_option maxHeartbeats 4000000 in
theorem ie_V34 (g : cw_G) : ∀ k, k < 6 → cw_mk g cw_I0 (false, false) 34 k = id_V g 34 k := by
  refine lt_s (p := fun k => cw_mk g cw_I0 (false, false) 34 k = id_V g 34 k) (i := 5) ?_ rfl
  refine lt_s (p := fun k => cw_mk g cw_I0 (false, false) 34 k = id_V g 34 k) (i := 4) ?_ rfl
  refine lt_s (p := fun k => cw_mk g cw_I0 (false, false) 34 k = id_V g 34 k) (i := 3) ?_ rfl
  refine lt_s (p := fun k => cw_mk g cw_I0 (false, false) 34 k = id_V g 34 k) (i := 2) ?_ rfl
  refine lt_s (p := fun k => cw_mk g cw_I0 (false, false) 34 k = id_V g 34 k) (i := 1) ?_ rfl
  refine lt_s (p := fun k => cw_mk g cw_I0 (false, false) 34 k = id_V g 34 k) (i := 0) ?_ rfl
  exact lt_0
set_option maxRecDepth 100000 in
set_option maxHeartbeats 4000000 in
theorem ie_V37 (g : cw_G) : ∀ k, k < 9 → cw_mk g cw_I0 (false, false) 37 k = id_V g 37 k := by
  refine lt_s (p := fun k => cw_mk g cw_I0 (false, false) 37 k = id_V g 37 k) (i := 8) ?_ rfl
  refine lt_s (p := fun k => cw_mk g cw_I0 (false, false) 37 k = id_V g 37 k) (i := 7) ?_ rfl
  refine lt_s (p := fun k => cw_mk g cw_I0 (false, false) 37 k = id_V g 37 k) (i := 6) ?_ rfl
  refine lt_s (p := fun k => cw_mk g cw_I0 (false, false) 37 k = id_V g 37 k) (i := 5) ?_ rfl
  refine lt_s (p := fun k => cw_mk g cw_I0 (false, false) 37 k = id_V g 37 k) (i := 4) ?_ rfl
  refine lt_s (p := fun k => cw_mk g cw_I0 (false, false) 37 k = id_V g 37 k) (i := 3) ?_ rfl
  refine lt_s (p := fun k => cw_mk g cw_I0 (false, false) 37 k = id_V g 37 k) (i := 2) ?_ rfl
  refine lt_s (p := fun k => cw_mk g cw_I0 (false, false) 37 k = id_V g 37 k) (i := 1) ?_ rfl
  refine lt_s (p := fun k => cw_mk g cw_I0 (false, false) 37 k = id_V g 37 k) (i := 0) ?_ rfl
  exact lt_0
set_option maxRecDepth 100000 in
set_option maxHeartbeats 4000000 in
theorem ie_V46 (g : cw_G) : ∀ k, k < 7 → cw_mk g cw_I0 (false, false) 46 k = id_V g 46 k := by
  refine lt_s (p := fun k => cw_mk g cw_I0 (false, false) 46 k = id_V g 46 k) (i := 6) ?_ rfl
  refine lt_s (p := fun k => cw_mk g cw_I0 (false, false) 46 k = id_V g 46 k) (i := 5) ?_ rfl
  refine lt_s (p := fun k => cw_mk g cw_I0 (false, false) 46 k = id_V g 46 k) (i := 4) ?_ rfl
  refine lt_s (p := fun k => cw_mk g cw_I0 (false, false) 46 k = id_V g 46 k) (i := 3) ?_ rfl
  refine lt_s (p := fun k => cw_mk g cw_I0 (false, false) 46 k = id_V g 46 k) (i := 2) ?_ rfl
  refine lt_s (p := fun k => cw_mk g cw_I0 (false, false) 46 k = id_V g 46 k) (i := 1) ?_ rfl
  refine lt_s (p := fun k => cw_mk g cw_I0 (false, false) 46 k = id_V g 46 k) (i := 0) ?_ rfl
  exact lt_0
set_option maxRecDepth 100000 in
set_option maxHeartbeats 4000000 in
theorem ie_V53 (g : cw_G) : ∀ k, k < 8 → cw_mk g cw_I0 (false, false) 53 k = id_V g 53 k := by
  refine lt_s (p := fun k => cw_mk g cw_I0 (false, false) 53 k = id_V g 53 k) (i := 7) ?_ rfl
  refine lt_s (p := fun k => cw_mk g cw_I0 (false, false) 53 k = id_V g 53 k) (i := 6) ?_ rfl
  refine lt_s (p := fun k => cw_mk g cw_I0 (false, false) 53 k = id_V g 53 k) (i := 5) ?_ rfl
  refine lt_s (p := fun k => cw_mk g cw_I0 (false, false) 53 k = id_V g 53 k) (i := 4) ?_ rfl
  refine lt_s (p := fun k => cw_mk g cw_I0 (false, false) 53 k = id_V g 53 k) (i := 3) ?_ rfl
  refine lt_s (p := fun k => cw_mk g cw_I0 (false, false) 53 k = id_V g 53 k) (i := 2) ?_ rfl
  refine lt_s (p := fun k => cw_mk g cw_I0 (false, false) 53 k = id_V g 53 k) (i := 1) ?_ rfl
  refine lt_s (p := fun k => cw_mk g cw_I0 (false, false) 53 k = id_V g 53 k) (i := 0) ?_ rfl
  exact lt_0
set_option maxRecDepth 100000 in
set_option maxHeartbeats 4000000 in
theorem ie_V60 (g : cw_G) : ∀ k, k < 9 → cw_mk g cw_I0 (false, false) 60 k = id_V g 60 k := by
  refine lt_s (p := fun k => cw_mk g cw_I0 (false, false) 60 k = id_V g 60 k) (i := 8) ?_ rfl
  refine lt_s (p := fun k => cw_mk g cw_I0 (false, false) 60 k = id_V g 60 k) (i := 7) ?_ rfl
  refine lt_s (p := fun k => cw_mk g cw_I0 (false, false) 60 k = id_V g 60 k) (i := 6) ?_ rfl
  refine lt_s (p := fun k => cw_mk g cw_I0 (false, false) 60 k = id_V g 60 k) (i := 5) ?_ rfl
  refine lt_s (p := fun k => cw_mk g cw_I0 (false, false) 60 k = id_V g 60 k) (i := 4) ?_ rfl
  refine lt_s (p := fun k => cw_mk g cw_I0 (false, false) 60 k = id_V g 60 k) (i := 3) ?_ rfl
  refine lt_s (p := fun k => cw_mk g cw_I0 (false, false) 60 k = id_V g 60 k) (i := 2) ?_ rfl
  refine lt_s (p := fun k => cw_mk g cw_I0 (false, false) 60 k = id_V g 60 k) (i := 1) ?_ rfl
  refine lt_s (p := fun k => cw_mk g cw_I0 (false, false) 60 k = id_V g 60 k) (i := 0) ?_ rfl
  exact lt_0
set_option maxRecDepth 100000 in
set_option maxHeartbeats 4000000 in
theorem ie_V68 (g : cw_G) : ∀ k, k < 77 → cw_mk g cw_I0 (false, false) 68 k = id_V g 68 k := by
  refine lt_s (p := fun k => cw_mk g cw_I0 (false, false) 68 k = id_V g 68 k) (i := 76) ?_ rfl
  refine lt_s (p := fun k => cw_mk g cw_I0 (false, false) 68 k = id_V g 68 k) (i := 75) ?_ rfl
  refine lt_s (p := fun k => cw_mk g cw_I0 (false, false) 68 k = id_V g 68 k) (i := 74) ?_ rfl
  refine lt_s (p := fun k => cw_mk g cw_I0 (false, false) 68 k = id_V g 68 k) (i := 73) ?_ rfl
  refine lt_s (p := fun k => cw_mk g cw_I0 (false, false) 68 k = id_V g 68 k) (i := 72) ?_ rfl
  refine lt_s (p := fun k => cw_mk g cw_I0 (false, false) 68 k = id_V g 68 k) (i := 71) ?_ rfl
  refine lt_s (p := fun k => cw_mk g cw_I0 (false, false) 68 k = id_V g 68 k) (i := 70) ?_ rfl
  refine lt_s (p := fun k => cw_mk g cw_I0 (false, false) 68 k = id_V g 68 k) (i := 69) ?_ rfl
  refine lt_s (p := fun k => cw_mk g cw_I0 (false, false) 68 k = id_V g 68 k) (i := 68) ?_ rfl
  refine lt_s (p := fun k => cw_mk g cw_I0 (false, false) 68 k = id_V g 68 k) (i := 67) ?_ rfl
  refine lt_s (p := fun k => cw_mk g cw_I0 (false, false) 68 k = id_V g 68 k) (i := 66) ?_ rfl
  refine lt_s (p := fun k => cw_mk g cw_I0 (false, false) 68 k = id_V g 68 k) (i := 65) ?_ rfl
  refine lt_s (p := fun k => cw_mk g cw_I0 (false, false) 68 k = id_V g 68 k) (i := 64) ?_ rfl
  refine lt_s (p := fun k => cw_mk g cw_I0 (false, false) 68 k = id_V g 68 k) (i := 63) ?_ rfl
  refine lt_s (p := fun k => cw_mk g cw_I0 (false, false) 68 k = id_V g 68 k) (i := 62) ?_ rfl
  refine lt_s (p := fun k => cw_mk g cw_I0 (false, false) 68 k = id_V g 68 k) (i := 61) ?_ rfl
  refine lt_s (p := fun k => cw_mk g cw_I0 (false, false) 68 k = id_V g 68 k) (i := 60) ?_ rfl
  refine lt_s (p := fun k => cw_mk g cw_I0 (false, false) 68 k = id_V g 68 k) (i := 59) ?_ rfl
  refine lt_s (p := fun k => cw_mk g cw_I0 (false, false) 68 k = id_V g 68 k) (i := 58) ?_ rfl
  refine lt_s (p := fun k => cw_mk g cw_I0 (false, false) 68 k = id_V g 68 k) (i := 57) ?_ rfl
  refine lt_s (p := fun k => cw_mk g cw_I0 (false, false) 68 k = id_V g 68 k) (i := 56) ?_ rfl
  refine lt_s (p := fun k => cw_mk g cw_I0 (false, false) 68 k = id_V g 68 k) (i := 55) ?_ rfl
  refine lt_s (p := fun k => cw_mk g cw_I0 (false, false) 68 k = id_V g 68 k) (i := 54) ?_ rfl
  refine lt_s (p := fun k => cw_mk g cw_I0 (false, false) 68 k = id_V g 68 k) (i := 53) ?_ rfl
  refine lt_s (p := fun k => cw_mk g cw_I0 (false, false) 68 k = id_V g 68 k) (i := 52) ?_ rfl
  refine lt_s (p := fun k => cw_mk g cw_I0 (false, false) 68 k = id_V g 68 k) (i := 51) ?_ rfl
  refine lt_s (p := fun k => cw_mk g cw_I0 (false, false) 68 k = id_V g 68 k) (i := 50) ?_ rfl
  refine lt_s (p := fun k => cw_mk g cw_I0 (false, false) 68 k = id_V g 68 k) (i := 49) ?_ rfl
  refine lt_s (p := fun k => cw_mk g cw_I0 (false, false) 68 k = id_V g 68 k) (i := 48) ?_ rfl
  refine lt_s (p := fun k => cw_mk g cw_I0 (false, false) 68 k = id_V g 68 k) (i := 47) ?_ rfl
  refine lt_s (p := fun k => cw_mk g cw_I0 (false, false) 68 k = id_V g 68 k) (i := 46) ?_ rfl
  refine lt_s (p := fun k => cw_mk g cw_I0 (false, false) 68 k = id_V g 68 k) (i := 45) ?_ rfl
  refine lt_s (p := fun k => cw_mk g cw_I0 (false, false) 68 k = id_V g 68 k) (i := 44) ?_ rfl
  refine lt_s (p := fun k => cw_mk g cw_I0 (false, false) 68 k = id_V g 68 k) (i := 43) ?_ rfl
  refine lt_s (p := fun k => cw_mk g cw_I0 (false, false) 68 k = id_V g 68 k) (i := 42) ?_ rfl
  refine lt_s (p := fun k => cw_mk g cw_I0 (false, false) 68 k = id_V g 68 k) (i := 41) ?_ rfl
  refine lt_s (p := fun k => cw_mk g cw_I0 (false, false) 68 k = id_V g 68 k) (i := 40) ?_ rfl
  refine lt_s (p := fun k => cw_mk g cw_I0 (false, false) 68 k = id_V g 68 k) (i := 39) ?_ rfl
  refine lt_s (p := fun k => cw_mk g cw_I0 (false, false) 68 k = id_V g 68 k) (i := 38) ?_ rfl
  refine lt_s (p := fun k => cw_mk g cw_I0 (false, false) 68 k = id_V g 68 k) (i := 37) ?_ rfl
  refine lt_s (p := fun k => cw_mk g cw_I0 (false, false) 68 k = id_V g 68 k) (i := 36) ?_ rfl
  refine lt_s (p := fun k => cw_mk g cw_I0 (false, false) 68 k = id_V g 68 k) (i := 35) ?_ rfl
  refine lt_s (p := fun k => cw_mk g cw_I0 (false, false) 68 k = id_V g 68 k) (i := 34) ?_ rfl
  refine lt_s (p := fun k => cw_mk g cw_I0 (false, false) 68 k = id_V g 68 k) (i := 33) ?_ rfl
  refine lt_s (p := fun k => cw_mk g cw_I0 (false, false) 68 k = id_V g 68 k) (i := 32) ?_ rfl
  refine lt_s (p := fun k => cw_mk g cw_I0 (false, false) 68 k = id_V g 68 k) (i := 31) ?_ rfl
  refine lt_s (p := fun k => cw_mk g cw_I0 (false, false) 68 k = id_V g 68 k) (i := 30) ?_ rfl
  refine lt_s (p := fun k => cw_mk g cw_I0 (false, false) 68 k = id_V g 68 k) (i := 29) ?_ rfl
  refine lt_s (p := fun k => cw_mk g cw_I0 (false, false) 68 k = id_V g 68 k) (i := 28) ?_ rfl
  refine lt_s (p := fun k => cw_mk g cw_I0 (false, false) 68 k = id_V g 68 k) (i := 27) ?_ rfl
  refine lt_s (p := fun k => cw_mk g cw_I0 (false, false) 68 k = id_V g 68 k) (i := 26) ?_ rfl
  refine lt_s (p := fun k => cw_mk g cw_I0 (false, false) 68 k = id_V g 68 k) (i := 25) ?_ rfl
  refine lt_s (p := fun k => cw_mk g cw_I0 (false, false) 68 k = id_V g 68 k) (i := 24) ?_ rfl
  refine lt_s (p := fun k => cw_mk g cw_I0 (false, false) 68 k = id_V g 68 k) (i := 23) ?_ rfl
  refine lt_s (p := fun k => cw_mk g cw_I0 (false, false) 68 k = id_V g 68 k) (i := 22) ?_ rfl
  refine lt_s (p := fun k => cw_mk g cw_I0 (false, false) 68 k = id_V g 68 k) (i := 21) ?_ rfl
  refine lt_s (p := fun k => cw_mk g cw_I0 (false, false) 68 k = id_V g 68 k) (i := 20) ?_ rfl
  refine lt_s (p := fun k => cw_mk g cw_I0 (false, false) 68 k = id_V g 68 k) (i := 19) ?_ rfl
  refine lt_s (p := fun k => cw_mk g cw_I0 (false, false) 68 k = id_V g 68 k) (i := 18) ?_ rfl
  refine lt_s (p := fun k => cw_mk g cw_I0 (false, false) 68 k = id_V g 68 k) (i := 17) ?_ rfl
  refine lt_s (p := fun k => cw_mk g cw_I0 (false, false) 68 k = id_V g 68 k) (i := 16) ?_ rfl
  refine lt_s (p := fun k => cw_mk g cw_I0 (false, false) 68 k = id_V g 68 k) (i := 15) ?_ rfl
  refine lt_s (p := fun k => cw_mk g cw_I0 (false, false) 68 k = id_V g 68 k) (i := 14) ?_ rfl
  refine lt_s (p := fun k => cw_mk g cw_I0 (false, false) 68 k = id_V g 68 k) (i := 13) ?_ rfl
  refine lt_s (p := fun k => cw_mk g cw_I0 (false, false) 68 k = id_V g 68 k) (i := 12) ?_ rfl
  refine lt_s (p := fun k => cw_mk g cw_I0 (false, false) 68 k = id_V g 68 k) (i := 11) ?_ rfl
  refine lt_s (p := fun k => cw_mk g cw_I0 (false, false) 68 k = id_V g 68 k) (i := 10) ?_ rfl
  refine lt_s (p := fun k => cw_mk g cw_I0 (false, false) 68 k = id_V g 68 k) (i := 9) ?_ rfl
  refine lt_s (p := fun k => cw_mk g cw_I0 (false, false) 68 k = id_V g 68 k) (i := 8) ?_ rfl
  refine lt_s (p := fun k => cw_mk g cw_I0 (false, false) 68 k = id_V g 68 k) (i := 7) ?_ rfl
  refine lt_s (p := fun k => cw_mk g cw_I0 (false, false) 68 k = id_V g 68 k) (i := 6) ?_ rfl
  refine lt_s (p := fun k => cw_mk g cw_I0 (false, false) 68 k = id_V g 68 k) (i := 5) ?_ rfl
  refine lt_s (p := fun k => cw_mk g cw_I0 (false, false) 68 k = id_V g 68 k) (i := 4) ?_ rfl
  refine lt_s (p := fun k => cw_mk g cw_I0 (false, false) 68 k = id_V g 68 k) (i := 3) ?_ rfl
  refine lt_s (p := fun k => cw_mk g cw_I0 (false, false) 68 k = id_V g 68 k) (i := 2) ?_ rfl
  refine lt_s (p := fun k => cw_mk g cw_I0 (false, false) 68 k = id_V g 68 k) (i := 1) ?_ rfl
  refine lt_s (p := fun k => cw_mk g cw_I0 (false, false) 68 k = id_V g 68 k) (i := 0) ?_ rfl
  exact lt_0
theorem ie_ob : ∀ c, c < 120 → (cw_K0 c).1 < 13 → (c = 0 ∨ c = 1 ∨ c = 5 ∨ c = 9 ∨ c = 12 ∨ c = 16 ∨ c = 19 ∨ c = 29 ∨ c = 33 ∨ c = 34 ∨ c = 37 ∨ c = 46 ∨ c = 53 ∨ c = 60 ∨ c = 68) := by decide +kernel
set_option maxRecDepth 100000 in
set_option maxHeartbeats 4000000 in
/-- from the law's entry, with nothing made yet, to its loop -/
theorem la_start {g : cw_G} {Iv : cw_IR} {b Ln : Nat} {xs : Nat → Int32} (hX : va_X b Ln xs g.2.1 g.2.1.heap) (hbz : b < cw_z g) (hLn : Ln ≤ 3584) (hOK : cw_OKs g Iv) (hI : Iv cw_I0 cw_A0 cw_J0 (false, false)) : Ev g mL_law 0 0 0 [some (.ref b), none, none, none] [] (0, fun _ => (0, 0), fun _ _ => .null, fun _ _ => 0, fun _ _ => 0) (fun r _ => r = some (.int 1)) := by
  refine tn_new (pc := 0) (n2 := 1) (ce2 := 1) (sl2 := 15) (K2 := ia_K g) (V2 := ia_V g) dL_law_0 kc_11 cl_L_7 ci_11 cn_11 (by decide) (by decide) rfl rfl rfl rfl rfl ?_
  refine ev_dup (pc := 3) dL_law_3 rfl ?_
  refine tn_callI (pc := 4) (Y2 := mX11_init) (ce2 := 68) (sl2 := 11401) (τ := (68, ib_K g, ib_V g, ib_A g, ib_J g)) dL_law_4 lk_L_9 cd_X11_init ar_X11_init rfl rfl (by decide) (cn_X11_init_0 g (ia_K g) (ia_V g) (fun _ _ => 0) (fun _ _ => 0) rfl) rfl rfl (Nat.le_of_ble_eq_true rfl) (by decide) rfl rfl ?_
  refine ev_astore_1 (pc := 7) dL_law_7 (by decide) rfl ?_
  refine tn_new (pc := 8) (n2 := 69) (ce2 := 69) (sl2 := 11478) (K2 := ic_K g) (V2 := ic_V g) dL_law_8 kc_12 cl_L_10 ci_12 cn_12 (by decide) (by decide) rfl rfl rfl rfl rfl ?_
  refine ev_dup (pc := 11) dL_law_11 rfl ?_
  refine tn_callI (pc := 12) (Y2 := mX12_init) (ce2 := 120) (sl2 := 27563) (τ := (120, id_K g, id_V g, id_A g, id_J g)) dL_law_12 lk_L_12 cd_X12_init ar_X12_init rfl rfl (by decide) (cn_X12_init_68 g (ic_K g) (ic_V g) (ib_A g) (ib_J g) rfl) rfl rfl (Nat.le_of_ble_eq_true rfl) (by decide) rfl rfl ?_
  refine ev_astore_2 (pc := 15) dL_law_15 (by decide) rfl ?_
  refine ev_iconst (pc := 16) (v := 0) dL_law_16 (by decide) ?_
  refine ev_istore_3 (pc := 17) dL_law_17 (by decide) rfl ?_
  refine ev_same (σ' := hp g cw_I0 cw_A0 cw_J0 (false, false)) ?_ rfl (fun c hc => (ie_K g c hc).symm) (fun c hc h13 k r hr hk => ?_) (fun c hc h13 j hj => ?_)
  · exact la_loop hX hbz hLn hOK (Ln + 8) 0 0 _ _ _ _ nI_0.symm (by omega) (by omega) hI
  · have hc : c < 120 := hc
    have h13 : (id_K g c).1 < 13 := h13
    have hr : vwCl[(id_K g c).1]? = some r := hr
    show cw_mk g cw_I0 (false, false) c k = id_V g c k
    rw [ie_K g c hc] at h13 hr
    rcases ie_ob c hc h13 with rfl | rfl | rfl | rfl | rfl | rfl | rfl | rfl | rfl | rfl | rfl | rfl | rfl | rfl | rfl 
    · cases (show some (RX11, TX11, 15) = some r from hr)
      exact ie_V0 g k hk
    · cases (show some (RX9, TX9, 4) = some r from hr)
      exact ie_V1 g k hk
    · cases (show some (RX9, TX9, 4) = some r from hr)
      exact ie_V5 g k hk
    · cases (show some (RX2, TX2, 3) = some r from hr)
      exact ie_V9 g k hk
    · cases (show some (RX6, TX6, 4) = some r from hr)
      exact ie_V12 g k hk
    · cases (show some (RX8, TX8, 2) = some r from hr)
      exact ie_V16 g k hk
    · cases (show some (RX1, TX1, 10) = some r from hr)
      exact ie_V19 g k hk
    · cases (show some (RX0, TX0, 2) = some r from hr)
      exact ie_V29 g k hk
    · cases (show some (RX4, TX4, 12) = some r from hr)
      exact ie_V33 g k hk
    · cases (show some (RX7, TX7, 6) = some r from hr)
      exact ie_V34 g k hk
    · cases (show some (RX10, TX10, 9) = some r from hr)
      exact ie_V37 g k hk
    · cases (show some (RX3, TX3, 7) = some r from hr)
      exact ie_V46 g k hk
    · cases (show some (RX5, TX5, 8) = some r from hr)
      exact ie_V53 g k hk
    · cases (show some (RX10, TX10, 9) = some r from hr)
      exact ie_V60 g k hk
    · cases (show some (RX12, TX12, 77) = some r from hr)
      exact ie_V68 g k hk
  · have hc : c < 120 := hc
    have h13 : 13 ≤ (id_K g c).1 := h13
    have hj : j < (id_K g c).2 := hj
    rw [ie_K g c hc] at hj
    have e1 : cw_con (hp g cw_I0 cw_A0 cw_J0 (false, false)) c j = if (cw_K0 c).1 = 15 then .long (cw_J0 c j) else .int (cw_A0 c j) := by unfold cw_con; split <;> rfl
    have e2 : cw_con (120, id_K g, id_V g, id_A g, id_J g) c j = if (cw_K0 c).1 = 15 then .long (id_J g c j) else .int (id_A g c j) := by unfold cw_con; simp only [ie_K g c hc]; split <;> rfl
    rw [e1, e2]
    have hA : (cw_K0 c).1 ≠ 15 → cw_A0 c j = id_A g c j := by
      intro _
      rcases ie_A g c hc with rfl | h
      · rw [ie_A97 g j hj]
        have hj4 : j < 4 := hj
        simp [cw_A0, hj4]
      · rw [h]
        by_cases e : c = 97
        · subst e
          have h0 := h 0
          rw [ie_A97 g 0 (by decide)] at h0
          exact absurd h0 (by decide)
        · simp [cw_A0, e]
    have hJ : (cw_K0 c).1 = 15 → cw_J0 c j = id_J g c j := by
      intro _
      rcases ie_J g c hc with rfl | h
      · exact (ie_J75 g j hj).symm
      · rw [h]
        by_cases e : c = 75
        · subst e
          have h0 := h 0
          rw [ie_J75 g 0 (by decide)] at h0
          exact absurd h0 (by decide)
        · simp [cw_J0, e]
    split
    · next h => rw [hJ h]
    · next h => rw [hA h]
