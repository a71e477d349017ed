theorem F_all (Ls : Nat) (xs : Nat → Int32) (hL : Ls ≤ 260) : F_start Ls xs := F_done hL
