section
variable {B : Nat} {a : mA} {u : vZ} {v : vS}
end


