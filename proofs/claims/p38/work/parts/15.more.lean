section ZMORE
variable {M : zM} {Γ : List (Nat × Nat)} {n a b : Nat}
theorem zx_bconst {c m : Int} (hd : decode (zcc M) a = .ok (.iconst m, 1)) (hm : m = c) (hc : c = 0 ∨ c = 1) : zEx M Γ n 4 a (a + 1) (xC c) := zx_leaf (fun _ _ => hc) (fun _ _ _ _ k => zr_iconst hd hm k)
end ZMORE
