/-! the reference in any state: roots, powers -/
