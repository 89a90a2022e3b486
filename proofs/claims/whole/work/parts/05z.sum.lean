theorem sumX {α β γ : Type} {f : α → Option (γ ⊕ β)} {q : β} {out : γ ⊕ β} (h : sumE f (fun q => some (Sum.inr q)) (Sum.inr q) = some out) : out = .inr q := (Option.some.inj h).symm
