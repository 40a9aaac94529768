/-! the class in any state, the states' forms kept -/
