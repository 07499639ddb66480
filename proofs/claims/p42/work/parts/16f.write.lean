theorem chr16 : ∀ c : Nat, c < 200 → (Int32.toUInt32 (nI c) % 65536).toInt32 = nI c := by decide +kernel
def wLine (u : vZ) (l : vS) : vZ := (u.1, (u.2.1, (u.2.2.1, (u.2.2.2.1, (u.2.2.2.2.1, (u.2.2.2.2.2.1, l))))))
section
variable {B : Nat} {a : mA} {u : vZ} {v : vS}
end


