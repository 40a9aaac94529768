-- 49.ref.lean.txt
section
/-! the reference in any state: the image -/
end
-- 50.ref.lean.txt
section
/-! the reference in any state: a step of signs -/
end
