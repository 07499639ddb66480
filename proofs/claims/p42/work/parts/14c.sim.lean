theorem peta {α β : Type} (p : α × β) : (p.1, p.2) = p := rfl
theorem mk3 (x : Nat → Int32) (u : vZ) : (u.1, ((u.2.1.1, u.2.1.2), u.2.2)) = u := rfl
section
variable {B : Nat} {a : mA} {u : vZ} {v : vS}
end


