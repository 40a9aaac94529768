/-! the law: its own methods of whole numbers -/
