/-! ===== the model's hours ===== -/
theorem goB_d {W : LW} {f : Nat} {b : BB} : goB W f b = if b 4 f = -1 then b else if b 6 1 < b 6 0 then up2 b 5 f (b 5 f - lossB W b f)
  else if nearB (b 2 f) (b 0 (ix (b 4 f))) = b 0 (ix (b 4 f)) then
    up2 (up2 (up2 (up2 (up2 b 5 f (b 5 f - lossB W b f)) 2 f (nearB (b 2 f) (b 0 (ix (b 4 f))))) 1 (ix (b 4 f)) (imin 99 (b 1 (ix (b 4 f)) + (b 5 f - lossB W b f)))) 4 f (-1)) 5 f 0
  else up2 (up2 b 5 f (b 5 f - lossB W b f)) 2 f (nearB (b 2 f) (b 0 (ix (b 4 f)))) := rfl
theorem fB_s {W : LW} {f k : Nat} {b : BB} : fB W f (k + 1) b = fB W (f + 1) k (goB W f b) := rfl
section GM
variable {d : Nat} {M : Mem} {h h0 h1 : Hp} {j : Jp} {r : Rp} {E : EE} {Q : Option PV → Mem → Prop} {G F : Nat} {W : LW} {b bt : BB}
end GM
