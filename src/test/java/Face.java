/** Calls the face by the numbers of AxisModel.NAMES. */
final class Face {
    private Face() {
    }

    static int call(StepAxis x, int name, int a, int b, int c) {
        switch (AxisModel.NAMES[name]) {
            case "set": return x.set(a, b);
            case "limits": return x.limits(a, b);
            case "load": return x.load(a, b, c);
            case "dropLoad": return x.dropLoad(a);
            case "loadOf": return x.loadOf(a, b);
            case "loadAt": return x.loadAt(a);
            case "ramp": return x.ramp(a, b);
            case "top": return x.top();
            case "timeOf": return x.timeOf(a);
            case "move": return x.move(a);
            case "moveBy": return x.moveBy(a);
            case "home": return x.home();
            case "forget": return x.forget();
            case "axis": return x.axis(a);
            case "moveOf": return x.moveOf(a, b);
            case "count": return x.count(a);
            case "wouldMiss": return x.wouldMiss(a);
            case "safe": return x.safe(a);
            case "firstMiss": return x.firstMiss(a);
            case "speedBits": return x.speedBits(a);
            case "undo": return x.undo();
            case "type": return x.type(a);
            case "clearText": return x.clearText();
            case "fault": return x.fault(a);
            case "play": return x.play();
            default: throw new IllegalStateException(AxisModel.NAMES[name]);
        }
    }
}
