theorem zOk_of {y : MethodName} {ws : List Cond} {nd ab : List Nat} {sc : zSc} {fr lo rt : Nat} {tys : List Nat} {m : List Int → zHp → Option (Int × zHp)} (k : zCon y ws nd ab sc fr lo tys rt m) {xs : List Int} {σ τ : zHp} {r : Int} (ho : zOk σ) (h : m xs σ = some (r, τ)) (ha : zOkA tys xs) : zOk τ := (k.1 xs σ r τ ho ha h).2.1
theorem zthis : inR 10 0 := ⟨rfl, by decide, by decide⟩
