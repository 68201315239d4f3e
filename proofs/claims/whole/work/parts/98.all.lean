theorem lw_all : ∀ (L : Nat) (xs : Nat → Int32), L ≤ 2048 → am_WP (L, xs) 2000 170 0 [some (.float 0), none, none, none] [] [] 0 0 (fun v _ => v = some (.int 1)) := fun _ _ h => lw_start (by omega) h
